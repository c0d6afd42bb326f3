section
-- ===== PART A: goes FIRST, ahead of the names: the tables' words, and 'selects' of the private methods out of them =====
/-- a private method of a class that the tables say can be made, by its rows of tables_1 -/
def lw_okq (q : MethodName × Nat) : Prop := (q.1.cls ≠ "java/lang/invoke/MethodHandle" ∧ q.1.cls ≠ "java/lang/invoke/VarHandle") ∧ Cond.instantiable q.1.cls q.2 ∈ tables_1 ∧ Cond.privateMethod q.1 ∈ tables_1 ∧ Cond.instanceMethod q.1 ∈ tables_1
theorem lw_p0 : lw_okq (⟨"PoorDesk", "finding", "(I)I"⟩, 6) := ⟨⟨by decide +kernel, by decide +kernel⟩, List.mem_of_getElem? (i := 17) (by decide +kernel), List.mem_of_getElem? (i := 332) (by decide +kernel), List.mem_of_getElem? (i := 333) (by decide +kernel)⟩
theorem lw_p1 : lw_okq (⟨"PoorDesk", "canReckon", "(III)Z"⟩, 6) := ⟨⟨by decide +kernel, by decide +kernel⟩, List.mem_of_getElem? (i := 17) (by decide +kernel), List.mem_of_getElem? (i := 450) (by decide +kernel), List.mem_of_getElem? (i := 451) (by decide +kernel)⟩
theorem lw_p2 : lw_okq (⟨"PoorDesk$Reckoner", "prepare", "(III)V"⟩, 9) := ⟨⟨by decide +kernel, by decide +kernel⟩, List.mem_of_getElem? (i := 249) (by decide +kernel), List.mem_of_getElem? (i := 458) (by decide +kernel), List.mem_of_getElem? (i := 459) (by decide +kernel)⟩
theorem lw_p3 : lw_okq (⟨"PoorDesk$Reckoner", "gainByFact", "(II)I"⟩, 9) := ⟨⟨by decide +kernel, by decide +kernel⟩, List.mem_of_getElem? (i := 249) (by decide +kernel), List.mem_of_getElem? (i := 462) (by decide +kernel), List.mem_of_getElem? (i := 463) (by decide +kernel)⟩
theorem lw_p4 : lw_okq (⟨"PoorDesk$Reckoner", "gainByBirth", "(II)I"⟩, 9) := ⟨⟨by decide +kernel, by decide +kernel⟩, List.mem_of_getElem? (i := 249) (by decide +kernel), List.mem_of_getElem? (i := 475) (by decide +kernel), List.mem_of_getElem? (i := 476) (by decide +kernel)⟩
theorem lw_p5 : lw_okq (⟨"PoorDesk$Reckoner", "leaderOf", "(II)I"⟩, 9) := ⟨⟨by decide +kernel, by decide +kernel⟩, List.mem_of_getElem? (i := 249) (by decide +kernel), List.mem_of_getElem? (i := 483) (by decide +kernel), List.mem_of_getElem? (i := 484) (by decide +kernel)⟩
theorem lw_p6 : lw_okq (⟨"PoorDesk$Reckoner", "ownParish", "(II)I"⟩, 9) := ⟨⟨by decide +kernel, by decide +kernel⟩, List.mem_of_getElem? (i := 249) (by decide +kernel), List.mem_of_getElem? (i := 491) (by decide +kernel), List.mem_of_getElem? (i := 492) (by decide +kernel)⟩
theorem lw_p7 : lw_okq (⟨"PoorDesk", "parishOrNone", "(I)I"⟩, 6) := ⟨⟨by decide +kernel, by decide +kernel⟩, List.mem_of_getElem? (i := 17) (by decide +kernel), List.mem_of_getElem? (i := 495) (by decide +kernel), List.mem_of_getElem? (i := 496) (by decide +kernel)⟩
theorem lw_p8 : lw_okq (⟨"PoorDesk$Reckoner", "settledParish", "(I)I"⟩, 9) := ⟨⟨by decide +kernel, by decide +kernel⟩, List.mem_of_getElem? (i := 249) (by decide +kernel), List.mem_of_getElem? (i := 507) (by decide +kernel), List.mem_of_getElem? (i := 508) (by decide +kernel)⟩
theorem lw_p9 : lw_okq (⟨"PoorDesk$Reckoner", "teller", "(I)I"⟩, 9) := ⟨⟨by decide +kernel, by decide +kernel⟩, List.mem_of_getElem? (i := 249) (by decide +kernel), List.mem_of_getElem? (i := 511) (by decide +kernel), List.mem_of_getElem? (i := 512) (by decide +kernel)⟩
theorem lw_p10 : lw_okq (⟨"PoorDesk$Reckoner", "tryAllWays", "()I"⟩, 9) := ⟨⟨by decide +kernel, by decide +kernel⟩, List.mem_of_getElem? (i := 249) (by decide +kernel), List.mem_of_getElem? (i := 531) (by decide +kernel), List.mem_of_getElem? (i := 532) (by decide +kernel)⟩
theorem lw_p11 : lw_okq (⟨"PoorDesk$Reckoner", "findDoubted", "()V"⟩, 9) := ⟨⟨by decide +kernel, by decide +kernel⟩, List.mem_of_getElem? (i := 249) (by decide +kernel), List.mem_of_getElem? (i := 535) (by decide +kernel), List.mem_of_getElem? (i := 536) (by decide +kernel)⟩
theorem lw_p12 : lw_okq (⟨"PoorDesk$Reckoner", "deniedIn", "(I)I"⟩, 9) := ⟨⟨by decide +kernel, by decide +kernel⟩, List.mem_of_getElem? (i := 249) (by decide +kernel), List.mem_of_getElem? (i := 543) (by decide +kernel), List.mem_of_getElem? (i := 544) (by decide +kernel)⟩
theorem lw_p13 : lw_okq (⟨"PoorDeskModel", "finding", "(I)I"⟩, 13) := ⟨⟨by decide +kernel, by decide +kernel⟩, List.mem_of_getElem? (i := 754) (by decide +kernel), List.mem_of_getElem? (i := 808) (by decide +kernel), List.mem_of_getElem? (i := 809) (by decide +kernel)⟩
theorem lw_p14 : lw_okq (⟨"PoorDeskModel", "isParish", "(I)Z"⟩, 13) := ⟨⟨by decide +kernel, by decide +kernel⟩, List.mem_of_getElem? (i := 754) (by decide +kernel), List.mem_of_getElem? (i := 817) (by decide +kernel), List.mem_of_getElem? (i := 818) (by decide +kernel)⟩
theorem lw_p15 : lw_okq (⟨"PoorDeskModel", "isPerson", "(I)Z"⟩, 13) := ⟨⟨by decide +kernel, by decide +kernel⟩, List.mem_of_getElem? (i := 754) (by decide +kernel), List.mem_of_getElem? (i := 833) (by decide +kernel), List.mem_of_getElem? (i := 834) (by decide +kernel)⟩
def lw_privs_1 : List (MethodName × Nat) := [(⟨"PoorDesk", "finding", "(I)I"⟩, 6), (⟨"PoorDesk", "canReckon", "(III)Z"⟩, 6), (⟨"PoorDesk$Reckoner", "prepare", "(III)V"⟩, 9), (⟨"PoorDesk$Reckoner", "gainByFact", "(II)I"⟩, 9), (⟨"PoorDesk$Reckoner", "gainByBirth", "(II)I"⟩, 9), (⟨"PoorDesk$Reckoner", "leaderOf", "(II)I"⟩, 9), (⟨"PoorDesk$Reckoner", "ownParish", "(II)I"⟩, 9), (⟨"PoorDesk", "parishOrNone", "(I)I"⟩, 6), (⟨"PoorDesk$Reckoner", "settledParish", "(I)I"⟩, 9), (⟨"PoorDesk$Reckoner", "teller", "(I)I"⟩, 9), (⟨"PoorDesk$Reckoner", "tryAllWays", "()I"⟩, 9), (⟨"PoorDesk$Reckoner", "findDoubted", "()V"⟩, 9), (⟨"PoorDesk$Reckoner", "deniedIn", "(I)I"⟩, 9), (⟨"PoorDeskModel", "finding", "(I)I"⟩, 13), (⟨"PoorDeskModel", "isParish", "(I)Z"⟩, 13), (⟨"PoorDeskModel", "isPerson", "(I)Z"⟩, 13)]
theorem lw_r1 : ∀ q ∈ lw_privs_1, lw_okq q := List.forall_mem_cons.mpr ⟨lw_p0, List.forall_mem_cons.mpr ⟨lw_p1, List.forall_mem_cons.mpr ⟨lw_p2, List.forall_mem_cons.mpr ⟨lw_p3, List.forall_mem_cons.mpr ⟨lw_p4, List.forall_mem_cons.mpr ⟨lw_p5, List.forall_mem_cons.mpr ⟨lw_p6, List.forall_mem_cons.mpr ⟨lw_p7, List.forall_mem_cons.mpr ⟨lw_p8, List.forall_mem_cons.mpr ⟨lw_p9, List.forall_mem_cons.mpr ⟨lw_p10, List.forall_mem_cons.mpr ⟨lw_p11, List.forall_mem_cons.mpr ⟨lw_p12, List.forall_mem_cons.mpr ⟨lw_p13, List.forall_mem_cons.mpr ⟨lw_p14, List.forall_mem_cons.mpr ⟨lw_p15, fun _ h => absurd h List.not_mem_nil⟩⟩⟩⟩⟩⟩⟩⟩⟩⟩⟩⟩⟩⟩⟩⟩
theorem lw_p16 : lw_okq (⟨"PoorDeskModel", "link", "(III)I"⟩, 13) := ⟨⟨by decide +kernel, by decide +kernel⟩, List.mem_of_getElem? (i := 754) (by decide +kernel), List.mem_of_getElem? (i := 842) (by decide +kernel), List.mem_of_getElem? (i := 843) (by decide +kernel)⟩
theorem lw_p17 : lw_okq (⟨"PoorDeskModel", "doubts", "()I"⟩, 13) := ⟨⟨by decide +kernel, by decide +kernel⟩, List.mem_of_getElem? (i := 754) (by decide +kernel), List.mem_of_getElem? (i := 859) (by decide +kernel), List.mem_of_getElem? (i := 860) (by decide +kernel)⟩
theorem lw_p18 : lw_okq (⟨"PoorDeskModel", "canAsk", "(III)Z"⟩, 13) := ⟨⟨by decide +kernel, by decide +kernel⟩, List.mem_of_getElem? (i := 754) (by decide +kernel), List.mem_of_getElem? (i := 880) (by decide +kernel), List.mem_of_getElem? (i := 881) (by decide +kernel)⟩
theorem lw_p19 : lw_okq (⟨"PoorDeskModel", "ownOf", "(III)I"⟩, 13) := ⟨⟨by decide +kernel, by decide +kernel⟩, List.mem_of_getElem? (i := 754) (by decide +kernel), List.mem_of_getElem? (i := 884) (by decide +kernel), List.mem_of_getElem? (i := 885) (by decide +kernel)⟩
theorem lw_p20 : lw_okq (⟨"PoorDeskModel", "hasLaw", "(III)Z"⟩, 13) := ⟨⟨by decide +kernel, by decide +kernel⟩, List.mem_of_getElem? (i := 754) (by decide +kernel), List.mem_of_getElem? (i := 888) (by decide +kernel), List.mem_of_getElem? (i := 889) (by decide +kernel)⟩
theorem lw_p21 : lw_okq (⟨"PoorDeskModel", "isForce", "(III)Z"⟩, 13) := ⟨⟨by decide +kernel, by decide +kernel⟩, List.mem_of_getElem? (i := 754) (by decide +kernel), List.mem_of_getElem? (i := 892) (by decide +kernel), List.mem_of_getElem? (i := 893) (by decide +kernel)⟩
theorem lw_p22 : lw_okq (⟨"PoorDeskModel", "settlementOf", "(III)I"⟩, 13) := ⟨⟨by decide +kernel, by decide +kernel⟩, List.mem_of_getElem? (i := 754) (by decide +kernel), List.mem_of_getElem? (i := 900) (by decide +kernel), List.mem_of_getElem? (i := 901) (by decide +kernel)⟩
theorem lw_p23 : lw_okq (⟨"PoorDeskModel", "goesBy", "(II)Z"⟩, 13) := ⟨⟨by decide +kernel, by decide +kernel⟩, List.mem_of_getElem? (i := 754) (by decide +kernel), List.mem_of_getElem? (i := 904) (by decide +kernel), List.mem_of_getElem? (i := 905) (by decide +kernel)⟩
theorem lw_p24 : lw_okq (⟨"PoorDeskModel", "findOutcomes", "(III)I"⟩, 13) := ⟨⟨by decide +kernel, by decide +kernel⟩, List.mem_of_getElem? (i := 754) (by decide +kernel), List.mem_of_getElem? (i := 916) (by decide +kernel), List.mem_of_getElem? (i := 917) (by decide +kernel)⟩
theorem lw_p25 : lw_okq (⟨"PoorDeskModel", "isOrder", "(I)Z"⟩, 13) := ⟨⟨by decide +kernel, by decide +kernel⟩, List.mem_of_getElem? (i := 754) (by decide +kernel), List.mem_of_getElem? (i := 936) (by decide +kernel), List.mem_of_getElem? (i := 937) (by decide +kernel)⟩
theorem lw_p26 : lw_okq (⟨"PoorDeskModel", "listOf", "(II)I"⟩, 13) := ⟨⟨by decide +kernel, by decide +kernel⟩, List.mem_of_getElem? (i := 754) (by decide +kernel), List.mem_of_getElem? (i := 972) (by decide +kernel), List.mem_of_getElem? (i := 973) (by decide +kernel)⟩
theorem lw_p27 : lw_okq (⟨"PoorDeskModel", "reliefOf", "(II)I"⟩, 13) := ⟨⟨by decide +kernel, by decide +kernel⟩, List.mem_of_getElem? (i := 754) (by decide +kernel), List.mem_of_getElem? (i := 977) (by decide +kernel), List.mem_of_getElem? (i := 978) (by decide +kernel)⟩
theorem lw_p28 : lw_okq (⟨"PoorDeskModel", "isWifeOf", "(II)Z"⟩, 13) := ⟨⟨by decide +kernel, by decide +kernel⟩, List.mem_of_getElem? (i := 754) (by decide +kernel), List.mem_of_getElem? (i := 981) (by decide +kernel), List.mem_of_getElem? (i := 982) (by decide +kernel)⟩
def lw_privs_2 : List (MethodName × Nat) := [(⟨"PoorDeskModel", "link", "(III)I"⟩, 13), (⟨"PoorDeskModel", "doubts", "()I"⟩, 13), (⟨"PoorDeskModel", "canAsk", "(III)Z"⟩, 13), (⟨"PoorDeskModel", "ownOf", "(III)I"⟩, 13), (⟨"PoorDeskModel", "hasLaw", "(III)Z"⟩, 13), (⟨"PoorDeskModel", "isForce", "(III)Z"⟩, 13), (⟨"PoorDeskModel", "settlementOf", "(III)I"⟩, 13), (⟨"PoorDeskModel", "goesBy", "(II)Z"⟩, 13), (⟨"PoorDeskModel", "findOutcomes", "(III)I"⟩, 13), (⟨"PoorDeskModel", "isOrder", "(I)Z"⟩, 13), (⟨"PoorDeskModel", "listOf", "(II)I"⟩, 13), (⟨"PoorDeskModel", "reliefOf", "(II)I"⟩, 13), (⟨"PoorDeskModel", "isWifeOf", "(II)Z"⟩, 13)]
theorem lw_r2 : ∀ q ∈ lw_privs_2, lw_okq q := List.forall_mem_cons.mpr ⟨lw_p16, List.forall_mem_cons.mpr ⟨lw_p17, List.forall_mem_cons.mpr ⟨lw_p18, List.forall_mem_cons.mpr ⟨lw_p19, List.forall_mem_cons.mpr ⟨lw_p20, List.forall_mem_cons.mpr ⟨lw_p21, List.forall_mem_cons.mpr ⟨lw_p22, List.forall_mem_cons.mpr ⟨lw_p23, List.forall_mem_cons.mpr ⟨lw_p24, List.forall_mem_cons.mpr ⟨lw_p25, List.forall_mem_cons.mpr ⟨lw_p26, List.forall_mem_cons.mpr ⟨lw_p27, List.forall_mem_cons.mpr ⟨lw_p28, fun _ h => absurd h List.not_mem_nil⟩⟩⟩⟩⟩⟩⟩⟩⟩⟩⟩⟩⟩
def lw_privs : List (MethodName × Nat) := lw_privs_1 ++ (lw_privs_2)
def lw_tbl : List Cond := k2_sels lw_privs ++ tables_1
theorem lw_privs_ok : ∀ q ∈ lw_privs, lw_okq q := by
  show ∀ q ∈ lw_privs_1 ++ (lw_privs_2), lw_okq q
  exact List.forall_mem_append.mpr ⟨lw_r1, lw_r2⟩
end
section
/-- arrays over an array type, as the kit has va_AO for objects (the printed block below names it, nothing defines it) -/
def va_AOA (ty : FieldType) (U : State) : Prop := (Cond.arrayOver (.array ty)).before #[] U = true
theorem va_AOA.of {ty : FieldType} {A : Array Value} {U : State} (h : (Cond.arrayOver (.array ty)).before A U = true) : va_AOA ty U := h
theorem va_AOA.use {ty : FieldType} {A : Array Value} {U : State} (h : va_AOA ty U) : (Cond.arrayOver (.array ty)).before A U = true := h
/-! ===== BEGIN words of one list among another's, by their places ===== -/
theorem goodIn_r {big : List Cond} (ws : List Cond) (ps : List Nat) (hp : ws = ps.filterMap (fun i => big[i]?)) (h : ws.all goodWord = true) : GoodIn big ws := by
  intro w hw
  have h1 := List.all_eq_true.mp h w hw
  rw [hp] at hw
  obtain ⟨i, -, hi⟩ := List.mem_filterMap.mp hw
  have hm : w ∈ big := by first | exact List.mem_of_getElem? hi | exact List.getElem?_mem hi
  exact ⟨hm, good_of_word h1⟩
theorem goodIn_app {big a b : List Cond} (ha : GoodIn big a) (hb : GoodIn big b) : GoodIn big (a ++ b) := fun w h => (List.mem_append.mp h).elim (ha w) (hb w)
theorem goodIn_ca {big a b : List Cond} {c : Cond} (ha : GoodIn big (c :: a)) (hb : GoodIn big b) : GoodIn big (c :: (a ++ b)) := fun w h => (List.mem_cons.mp h).elim (fun e => ha w (List.mem_cons.mpr (Or.inl e))) (fun h => (List.mem_append.mp h).elim (fun h => ha w (List.mem_cons.mpr (Or.inr h))) (hb w))
theorem goodIn_sub {big ws : List Cond} (hm : ∀ w ∈ ws, w ∈ big) (h : ws.all goodWord = true) : GoodIn big ws := fun w hw => ⟨hm w hw, good_of_word (List.all_eq_true.mp h w hw)⟩
/-! ===== END ===== -/

/-! ===== BEGIN new T[n][m]: the outer array a place, the inner ones among the pooled ===== -/
/-- f, but v at every address of l -/
def vr_up {α : Type} (f : Nat → α) (l : List Nat) (v : α) : Nat → α := fun a => if a ∈ l then v else f a
theorem vr_up_in {α : Type} {f : Nat → α} {l : List Nat} {v : α} {a : Nat} (h : a ∈ l) : vr_up f l v a = v := if_pos h
theorem vr_up_ne {α : Type} {f : Nat → α} {l : List Nat} {v : α} {a : Nat} (h : a ∉ l) : vr_up f l v a = f a := if_neg h
theorem vr_rows {L l : List Nat} {f : Nat → va_E} {e : va_E} (h : ∀ a, a ∈ l → a ∉ L) : va_pl L f ++ l.map (fun a => (a, e)) = va_pl (L ++ l) (vr_up f l e) := by
  unfold va_pl
  rw [List.map_append]
  congr 1
  · apply List.map_congr_left
    intro a ha
    rw [vr_up_ne (fun q => h a q ha)]
  · apply List.map_congr_left
    intro a ha
    rw [vr_up_in ha]
theorem vr_lay {X rows : va_W} {x : Nat × va_E} {pl : va_W} {D : va_G} {cl : List vw_C} {H : Heap} (hP : va_P D cl (((X ++ pl) ++ [x]) ++ rows) H) : va_P D cl ((X ++ [x]) ++ (pl ++ rows)) H := by
  rw [List.append_assoc (X ++ pl)] at hP
  have h := va_P.swap hP
  rw [← List.append_assoc X] at h
  have h2 := va_P.swap h
  rw [List.append_assoc (X ++ [x])] at h2
  exact h2
theorem vr_layD {X rows : va_W} {x : Nat × va_E} {pl : va_W} {A : Nat → Prop} (hD : va_D A (((X ++ pl) ++ [x]) ++ rows)) : va_D A ((X ++ [x]) ++ (pl ++ rows)) := by
  rw [List.append_assoc (X ++ pl)] at hD
  have h := va_D.swap hD
  rw [← List.append_assoc X] at h
  have h2 := va_D.swap h
  rw [List.append_assoc (X ++ [x])] at h2
  exact h2
theorem vr_outer (c : ClassId) (N h0 : Nat) : ∀ i : Nat, Jvm.Free.Multi.outerC c N h0 i = arrV c N (fun j => va_rf (if j < i then some (h0 + 1 + j) else none))
  | 0 => by
    show ({ cls := c, slots := Array.replicate N .null, vm := .none } : Cell) = _
    rw [arrV_new]
    refine congrArg (arrV c N) (funext fun j => ?_)
    simp [va_rf]
  | i + 1 => by
    show (Jvm.Free.Multi.outerC c N h0 i).setSlot i (.ref (h0 + 1 + i)) = _
    rw [vr_outer c N h0 i, arrV_store]
    refine congrArg (arrV c N) (funext fun j => ?_)
    by_cases e : j = i
    · subst e
      simp [updV, va_rf]
    · by_cases h : j < i
      · simp [updV, e, h, Nat.lt_succ_of_lt h]
      · simp [updV, e, h, show ¬ j < i + 1 by omega]
section VGM
variable {p : Program} {l : Launch} {e : Env} {R : Room} {s : State} {m : MethodId} {args : Array Value} {below : List Frame} {meth : Method} {c : Code} {H : Heap} {locs : List Loc} {cells slots : Nat} {Q : State → Prop}
variable {cc : ByteArray} {pc : Nat} {ls : Array Slot} {rest : List Value} {D : va_G} {cl : List vw_C} {A : Nat → Prop} {a : Nat} {tys : List (ClassId × FieldType)} {ws : va_W} {H0 : Heap}
theorem va_mna {X : va_W} {L : List Nat} {f : Nat → va_E} {cc : ByteArray} (hexec : p.tables.exec = Jvm.exec) (hb : c.code = cc) {own : String} {index : Nat} {ty : FieldType} {cy : ClassId} (hown : s.vm.findClass own = some m.cls) (hclink : (Cond.classLink own index ("[" ++ (FieldType.array ty).toString)).before args s = true) (hover : va_AOA ty s) (harr : (Cond.arrayClass ty).before args s = true) (hcy : s.vm.findClass (FieldType.array ty).toString = some cy)
    (hK : va_K D cl tys s) (hP : va_P D cl (X ++ va_pl L f) H) (hD : va_D A (X ++ va_pl L f)) (hS : va_S A H0 H locs) (hA : ∀ q, H0.size ≤ q → A q) {n k : Int32} {N' K' : Nat} {z : vp_A} (hn : ¬ n < 0) (hk : ¬ k < 0) (hN : n.toNatClampNeg = N') (hM : k.toNatClampNeg = K')
    (hb1 : N' * 4 ≤ 536870912) (hb2 : K' * componentBytes ty ≤ 536870912) (hb3 : K' ≤ 536870912) (hdf : fits ty (defaultValue ty) = true) (hdd : (defaultValue ty).isDefault = true) (hcells : cells + (1 + N') ≤ R.cells) (hslots : slots + (N' + N' * K') ≤ R.slots) (hz : ∀ c : ClassId, Jvm.Free.Multi.innerC c K' (defaultValue ty) = vp_cell c z) (hdg : decode cc pc = .ok (.multianewarray index 2, 4))
    (kk : ∀ (q : Nat) (r : Nat → Nat) (cA : ClassId) (H1 : Heap), (∀ i j : Nat, i < N' → j < N' → r i = r j → i = j) → (∀ i : Nat, i < N' → r i ∉ L) → va_K D cl (tys ++ [(cA, .array ty)]) s →
      va_P D cl ((X ++ [(q, .inl (cA, N', .inr (.inr (.inr (.inr (fun i => if i < N' then some (r i) else none))))))]) ++ va_pl (L ++ (List.range N').map r) (vr_up f ((List.range N').map r) (.inl (cy, z)))) H1 → va_D A ((X ++ [(q, .inl (cA, N', .inr (.inr (.inr (.inr (fun i => if i < N' then some (r i) else none))))))]) ++ va_pl (L ++ (List.range N').map r) (vr_up f ((List.range N').map r) (.inl (cy, z)))) → va_S A H0 H1 locs →
      W p l e R s m args below meth c H1 locs (cells + 1 + N') (slots + N' + N' * K') Q (F0 m (pc + 4) ls (.ref q :: rest))) : W p l e R s m args below meth c H locs cells slots Q (F0 m pc ls (.int k :: .int n :: rest)) := by
  subst hN
  subst hM
  intro T hT Xs
  obtain ⟨vm₁, cA, comp, -, fA, fC, hO, -, X', step⟩ := Xs.multianewarray2F hexec hown hclink (va_AOA.use hover) harr (g := F0 m pc ls (.int k :: .int n :: rest)) rfl (by rw [hb]; exact hdg) rfl hn hk hb1 hb2 hb3 hdf hdd hcells hslots
  have ec : some cy = some comp := hcy.symm.trans fC
  cases ec
  generalize hF : Jvm.Free.Multi.fill (T.setVm vm₁) cA cy n.toNatClampNeg k.toNatClampNeg (defaultValue ty) n.toNatClampNeg = F at X' step
  have hTh : (T.setVm vm₁).heap = H := hT
  obtain ⟨f1, f2, -, -⟩ := Jvm.Free.Multi.fill_facts (T.setVm vm₁) cA cy n.toNatClampNeg k.toNatClampNeg (defaultValue ty) n.toNatClampNeg
  rw [hF, hTh] at f1 f2
  have hold : ∀ x : Nat, x < H.size → F.heap[x]? = H[x]? := fun x hx => by
    have := Jvm.Free.Multi.fill_old (T.setVm vm₁) cA cy n.toNatClampNeg k.toNatClampNeg (defaultValue ty) (a := x) (by rw [hTh]; exact hx) n.toNatClampNeg
    rw [hF, hTh] at this
    exact this
  have hrow : ∀ j : Nat, j < n.toNatClampNeg → F.heap[H.size + 1 + j]? = some (vp_cell cy z) := fun j hj => by
    have := Jvm.Free.Multi.fill_inner (T.setVm vm₁) cA cy n.toNatClampNeg k.toNatClampNeg (defaultValue ty) n.toNatClampNeg j hj
    rw [hF, hTh, hz] at this
    exact this
  have hout : Jvm.Free.Multi.outerC cA n.toNatClampNeg H.size n.toNatClampNeg = vp_cell cA (n.toNatClampNeg, .inr (.inr (.inr (.inr (fun i => if i < n.toNatClampNeg then some (H.size + 1 + i) else none))))) := by
    rw [vp_cell_q]
    exact vr_outer cA n.toNatClampNeg H.size n.toNatClampNeg
  rw [hout] at f2
  have hlt : ∀ a, a ∈ L → a < H.size := fun a ha => by
    obtain ⟨k9, hk9⟩ := va_pl_get (X := X) (f := f) ha
    exact (hP k9 _ hk9).lt
  have hnl : ∀ i : Nat, i < n.toNatClampNeg → H.size + 1 + i ∉ L := fun i _ h => by
    have := hlt _ h
    omega
  have hnm : ∀ a, a ∈ (List.range n.toNatClampNeg).map (fun i => H.size + 1 + i) → a ∉ L := fun a ha h => by
    obtain ⟨i, -, rfl⟩ := List.mem_map.mp ha
    have := hlt _ h
    omega
  have hP0 : va_P D cl (X ++ va_pl L f) F.heap := hP.kept (fun k9 x hx => hold x.1 ((hP k9 x hx).lt))
  have hP1 : va_P D cl ((X ++ va_pl L f) ++ [(H.size, .inl (cA, n.toNatClampNeg, .inr (.inr (.inr (.inr (fun i => if i < n.toNatClampNeg then some (H.size + 1 + i) else none))))))]) F.heap := hP0.app (fun k9 x hx => by
    have h0 : k9 < 1 := (List.getElem?_eq_some_iff.mp hx).1
    rw [show k9 = 0 by omega] at hx
    cases hx
    exact f2)
  have hP2 : va_P D cl (((X ++ va_pl L f) ++ [(H.size, .inl (cA, n.toNatClampNeg, .inr (.inr (.inr (.inr (fun i => if i < n.toNatClampNeg then some (H.size + 1 + i) else none))))))]) ++ ((List.range n.toNatClampNeg).map (fun i => H.size + 1 + i)).map (fun a => (a, .inl (cy, z)))) F.heap := hP1.app (fun k9 x hx => by
    obtain ⟨a, ha, rfl⟩ := List.mem_map.mp (List.mem_of_getElem? hx)
    obtain ⟨i, hi, rfl⟩ := List.mem_map.mp ha
    exact hrow i (List.mem_range.mp hi))
  have hD2 : va_D A (((X ++ va_pl L f) ++ [(H.size, .inl (cA, n.toNatClampNeg, .inr (.inr (.inr (.inr (fun i => if i < n.toNatClampNeg then some (H.size + 1 + i) else none))))))]) ++ ((List.range n.toNatClampNeg).map (fun i => H.size + 1 + i)).map (fun a => (a, .inl (cy, z)))) := by
    have hD1 := hD.push (e := .inl (cA, n.toNatClampNeg, .inr (.inr (.inr (.inr (fun i => if i < n.toNatClampNeg then some (H.size + 1 + i) else none)))))) hP rfl (hA _ hS.1)
    generalize hW1 : (X ++ va_pl L f) ++ [(H.size, .inl (cA, n.toNatClampNeg, .inr (.inr (.inr (.inr (fun i => if i < n.toNatClampNeg then some (H.size + 1 + i) else none))))))] = W1 at hD1 hP1 ⊢
    have hle : ∀ (k9 : Nat) (x : Nat × va_E), W1[k9]? = some x → x.1 ≤ H.size := fun k9 x hx => by
      rw [← hW1] at hx
      by_cases hl : k9 < (X ++ va_pl L f).length
      · rw [List.getElem?_append_left hl] at hx
        exact Nat.le_of_lt ((hP k9 x hx).lt)
      · rw [List.getElem?_append_right (by omega)] at hx
        have h0 : k9 - (X ++ va_pl L f).length < 1 := (List.getElem?_eq_some_iff.mp hx).1
        rw [show k9 - (X ++ va_pl L f).length = 0 by omega] at hx
        cases hx
        exact Nat.le_refl _
    have hr : ∀ (k9 : Nat) (x : Nat × va_E), (((List.range n.toNatClampNeg).map (fun i => H.size + 1 + i)).map (fun a => ((a, .inl (cy, z)) : Nat × va_E)))[k9]? = some x → x.1 = H.size + 1 + k9 := fun k9 x hx => by
      rw [List.getElem?_map, List.getElem?_map] at hx
      by_cases h9 : k9 < n.toNatClampNeg
      · rw [List.getElem?_range h9] at hx
        cases hx
        rfl
      · have hn0 : (List.range n.toNatClampNeg)[k9]? = none := List.getElem?_eq_none (by rw [List.length_range]; omega)
        rw [hn0] at hx
        cases hx
    refine ⟨fun i j x y hi hj hxy => ?_, fun k9 x hx => ?_⟩
    · by_cases h1 : i < W1.length <;> by_cases h2 : j < W1.length
      · rw [List.getElem?_append_left h1] at hi
        rw [List.getElem?_append_left h2] at hj
        exact hD1.1 i j x y hi hj hxy
      · rw [List.getElem?_append_left h1] at hi
        rw [List.getElem?_append_right (by omega)] at hj
        have := hle _ _ hi
        have := hr _ _ hj
        omega
      · rw [List.getElem?_append_right (by omega)] at hi
        rw [List.getElem?_append_left h2] at hj
        have := hle _ _ hj
        have := hr _ _ hi
        omega
      · rw [List.getElem?_append_right (by omega)] at hi hj
        have := hr _ _ hi
        have := hr _ _ hj
        omega
    · by_cases h1 : k9 < W1.length
      · rw [List.getElem?_append_left h1] at hx
        exact hD1.2 k9 x hx
      · rw [List.getElem?_append_right (by omega)] at hx
        have := hr _ _ hx
        exact hA _ (by have := hS.1; omega)
  have hAr : ArrOfT s cA (.array ty) := fun N9 z9 => by
    obtain ⟨-, k9, hk9, cm9, hkk9⟩ := (hO 0 0 0).1
    exact ⟨(fun q hq => by cases hq), k9, hk9, cm9, hkk9⟩
  have hK2 : va_K D cl (tys ++ [(cA, .array ty)]) s := ⟨hK.1, fun k9 x hx => by
    by_cases hl : k9 < tys.length
    · rw [List.getElem?_append_left hl] at hx
      exact hK.2 k9 x hx
    · rw [List.getElem?_append_right (by omega)] at hx
      have h0 : k9 - tys.length < 1 := (List.getElem?_eq_some_iff.mp hx).1
      rw [show k9 - tys.length = 0 by omega] at hx
      cases hx
      exact ⟨hAr, fA⟩⟩
  obtain ⟨t, a1, b1⟩ := kk H.size (fun i => H.size + 1 + i) cA F.heap (fun i j _ _ h => by have h9 : H.size + 1 + i = H.size + 1 + j := h; omega) hnl hK2 (by rw [← vr_rows hnm]; exact vr_lay hP2) (by rw [← vr_rows hnm]; exact vr_layD hD2) ⟨by rw [f1]; have := hS.1; omega, fun x h1 h2 => (hold x (Nat.lt_of_lt_of_le h1 hS.1)).trans (hS.2.1 x h1 h2), hS.2.2⟩ F rfl X'
  refine ⟨t, step t ?_, b1⟩
  have e : T.heap.size = H.size := by rw [hT]
  rw [e]
  exact a1
end VGM
/-! ===== END ===== -/

def RX0 : String := "PoorDesk$Book"
def TX0 : u_T := fun k => match k with
  | 0 => ("PoorDesk$Book", "parishes", "LPoorDesk$Parishes;", true)
  | 1 => ("PoorDesk$Book", "persons", "LPoorDesk$Persons;", true)
  | 2 => ("PoorDesk$Book", "facts", "LPoorDesk$Facts;", true)
  | 3 => ("PoorDesk$Book", "laws", "LPoorDesk$Laws;", true)
  | 4 => ("PoorDesk$Book", "orders", "LPoorDesk$Orders;", true)
  | 5 => ("PoorDesk$Book", "poor", "LPoorDesk$Poor;", true)
  | _ => ("PoorDesk$Book", "term", "I", false)
def tyX0 : Nat → FieldType := fun k => match k with
  | 0 => .object "PoorDesk$Parishes"
  | 1 => .object "PoorDesk$Persons"
  | 2 => .object "PoorDesk$Facts"
  | 3 => .object "PoorDesk$Laws"
  | 4 => .object "PoorDesk$Orders"
  | 5 => .object "PoorDesk$Poor"
  | _ => .int
theorem nmX0 : ∀ a, a < 7 → ∀ b, b < 7 → a ≠ b → (TX0 a).2.1 ≠ (TX0 b).2.1 := by decide +kernel
theorem tyX0_ok : ∀ k, k < 7 → parseFieldDescriptor (TX0 k).2.2.1 = some (tyX0 k) := by decide +kernel
abbrev cX0_init : ByteArray := prog_2_method_1_code
def yX0_init : MethodName := ⟨RX0, "<init>", "()V"⟩
abbrev cX0_become : ByteArray := prog_2_method_2_code
def yX0_become : MethodName := ⟨RX0, "become", "(LPoorDesk$Book;)V"⟩
def RX1 : String := "PoorDesk$Facts"
def TX1 : u_T := fun k => match k with
  | 0 => ("PoorDesk$Facts", "count", "I", false)
  | 1 => ("PoorDesk$Facts", "kind", "[I", true)
  | 2 => ("PoorDesk$Facts", "person", "[I", true)
  | 3 => ("PoorDesk$Facts", "parish", "[I", true)
  | 4 => ("PoorDesk$Facts", "pounds", "[I", true)
  | 5 => ("PoorDesk$Facts", "from", "[I", true)
  | 6 => ("PoorDesk$Facts", "to", "[I", true)
  | 7 => ("PoorDesk$Facts", "known", "[I", true)
  | _ => ("PoorDesk$Facts", "doubted", "[I", true)
def tyX1 : Nat → FieldType := fun k => match k with
  | 0 => .int
  | 1 => .array .int
  | 2 => .array .int
  | 3 => .array .int
  | 4 => .array .int
  | 5 => .array .int
  | 6 => .array .int
  | 7 => .array .int
  | _ => .array .int
theorem nmX1 : ∀ a, a < 9 → ∀ b, b < 9 → a ≠ b → (TX1 a).2.1 ≠ (TX1 b).2.1 := by decide +kernel
theorem tyX1_ok : ∀ k, k < 9 → parseFieldDescriptor (TX1 k).2.2.1 = some (tyX1 k) := by decide +kernel
abbrev cX1_init : ByteArray := prog_3_method_1_code
def yX1_init : MethodName := ⟨RX1, "<init>", "()V"⟩
abbrev cX1_has : ByteArray := prog_3_method_2_code
def yX1_has : MethodName := ⟨RX1, "has", "(I)Z"⟩
abbrev cX1_add : ByteArray := prog_3_method_3_code
def yX1_add : MethodName := ⟨RX1, "add", "(IIIIIII)I"⟩
abbrev cX1_isDoubted : ByteArray := prog_3_method_4_code
def yX1_isDoubted : MethodName := ⟨RX1, "isDoubted", "(I)Z"⟩
abbrev cX1_countDoubted : ByteArray := prog_3_method_5_code
def yX1_countDoubted : MethodName := ⟨RX1, "countDoubted", "()I"⟩
abbrev cX1_become : ByteArray := prog_3_method_6_code
def yX1_become : MethodName := ⟨RX1, "become", "(LPoorDesk$Facts;)V"⟩
def RX2 : String := "PoorDesk$Laws"
def TX2 : u_T := fun k => match k with
  | 0 => ("PoorDesk$Laws", "count", "I", false)
  | 1 => ("PoorDesk$Laws", "kind", "[I", true)
  | 2 => ("PoorDesk$Laws", "number", "[I", true)
  | 3 => ("PoorDesk$Laws", "from", "[I", true)
  | _ => ("PoorDesk$Laws", "to", "[I", true)
def tyX2 : Nat → FieldType := fun k => match k with
  | 0 => .int
  | 1 => .array .int
  | 2 => .array .int
  | 3 => .array .int
  | _ => .array .int
theorem nmX2 : ∀ a, a < 5 → ∀ b, b < 5 → a ≠ b → (TX2 a).2.1 ≠ (TX2 b).2.1 := by decide +kernel
theorem tyX2_ok : ∀ k, k < 5 → parseFieldDescriptor (TX2 k).2.2.1 = some (tyX2 k) := by decide +kernel
abbrev cX2_init : ByteArray := prog_4_method_1_code
def yX2_init : MethodName := ⟨RX2, "<init>", "()V"⟩
abbrev cX2_has : ByteArray := prog_4_method_2_code
def yX2_has : MethodName := ⟨RX2, "has", "(I)Z"⟩
abbrev cX2_add : ByteArray := prog_4_method_3_code
def yX2_add : MethodName := ⟨RX2, "add", "(IIII)I"⟩
abbrev cX2_rules : ByteArray := prog_4_method_4_code
def yX2_rules : MethodName := ⟨RX2, "rules", "(III)Z"⟩
abbrev cX2_anyRules : ByteArray := prog_4_method_5_code
def yX2_anyRules : MethodName := ⟨RX2, "anyRules", "(II)Z"⟩
abbrev cX2_anyAtMost : ByteArray := prog_4_method_6_code
def yX2_anyAtMost : MethodName := ⟨RX2, "anyAtMost", "(III)Z"⟩
abbrev cX2_anyAbove : ByteArray := prog_4_method_7_code
def yX2_anyAbove : MethodName := ⟨RX2, "anyAbove", "(III)Z"⟩
abbrev cX2_become : ByteArray := prog_4_method_8_code
def yX2_become : MethodName := ⟨RX2, "become", "(LPoorDesk$Laws;)V"⟩
def RX3 : String := "PoorDesk$Orders"
def TX3 : u_T := fun k => match k with
  | 0 => ("PoorDesk$Orders", "count", "I", false)
  | 1 => ("PoorDesk$Orders", "person", "[I", true)
  | 2 => ("PoorDesk$Orders", "from", "[I", true)
  | 3 => ("PoorDesk$Orders", "to", "[I", true)
  | 4 => ("PoorDesk$Orders", "day", "[I", true)
  | 5 => ("PoorDesk$Orders", "costs", "[I", true)
  | _ => ("PoorDesk$Orders", "state", "[I", true)
def tyX3 : Nat → FieldType := fun k => match k with
  | 0 => .int
  | 1 => .array .int
  | 2 => .array .int
  | 3 => .array .int
  | 4 => .array .int
  | 5 => .array .int
  | _ => .array .int
theorem nmX3 : ∀ a, a < 7 → ∀ b, b < 7 → a ≠ b → (TX3 a).2.1 ≠ (TX3 b).2.1 := by decide +kernel
theorem tyX3_ok : ∀ k, k < 7 → parseFieldDescriptor (TX3 k).2.2.1 = some (tyX3 k) := by decide +kernel
abbrev cX3_init : ByteArray := prog_5_method_1_code
def yX3_init : MethodName := ⟨RX3, "<init>", "()V"⟩
abbrev cX3_has : ByteArray := prog_5_method_2_code
def yX3_has : MethodName := ⟨RX3, "has", "(I)Z"⟩
abbrev cX3_add : ByteArray := prog_5_method_3_code
def yX3_add : MethodName := ⟨RX3, "add", "(IIIII)I"⟩
abbrev cX3_borneBy : ByteArray := prog_5_method_4_code
def yX3_borneBy : MethodName := ⟨RX3, "borneBy", "(I)I"⟩
abbrev cX3_become : ByteArray := prog_5_method_5_code
def yX3_become : MethodName := ⟨RX3, "become", "(LPoorDesk$Orders;)V"⟩
def RX4 : String := "PoorDesk$Parishes"
def TX4 : u_T := fun k => match k with
  | 0 => ("PoorDesk$Parishes", "count", "I", false)
  | 1 => ("PoorDesk$Parishes", "worth", "[I", true)
  | _ => ("PoorDesk$Parishes", "miles", "[[I", true)
def tyX4 : Nat → FieldType := fun k => match k with
  | 0 => .int
  | 1 => .array .int
  | _ => .array (.array .int)
theorem nmX4 : ∀ a, a < 3 → ∀ b, b < 3 → a ≠ b → (TX4 a).2.1 ≠ (TX4 b).2.1 := by decide +kernel
theorem tyX4_ok : ∀ k, k < 3 → parseFieldDescriptor (TX4 k).2.2.1 = some (tyX4 k) := by decide +kernel
abbrev cX4_init : ByteArray := prog_6_method_1_code
def yX4_init : MethodName := ⟨RX4, "<init>", "()V"⟩
abbrev cX4_has : ByteArray := prog_6_method_2_code
def yX4_has : MethodName := ⟨RX4, "has", "(I)Z"⟩
abbrev cX4_add : ByteArray := prog_6_method_3_code
def yX4_add : MethodName := ⟨RX4, "add", "(I)I"⟩
abbrev cX4_allWorth : ByteArray := prog_6_method_4_code
def yX4_allWorth : MethodName := ⟨RX4, "allWorth", "()I"⟩
abbrev cX4_share : ByteArray := prog_6_method_5_code
def yX4_share : MethodName := ⟨RX4, "share", "(III)I"⟩
abbrev cX4_become : ByteArray := prog_6_method_6_code
def yX4_become : MethodName := ⟨RX4, "become", "(LPoorDesk$Parishes;)V"⟩
def RX5 : String := "PoorDesk$Persons"
def TX5 : u_T := fun k => match k with
  | 0 => ("PoorDesk$Persons", "count", "I", false)
  | 1 => ("PoorDesk$Persons", "kind", "[I", true)
  | 2 => ("PoorDesk$Persons", "birthplace", "[I", true)
  | 3 => ("PoorDesk$Persons", "born", "[I", true)
  | 4 => ("PoorDesk$Persons", "leader", "[I", true)
  | _ => ("PoorDesk$Persons", "married", "[I", true)
def tyX5 : Nat → FieldType := fun k => match k with
  | 0 => .int
  | 1 => .array .int
  | 2 => .array .int
  | 3 => .array .int
  | 4 => .array .int
  | _ => .array .int
theorem nmX5 : ∀ a, a < 6 → ∀ b, b < 6 → a ≠ b → (TX5 a).2.1 ≠ (TX5 b).2.1 := by decide +kernel
theorem tyX5_ok : ∀ k, k < 6 → parseFieldDescriptor (TX5 k).2.2.1 = some (tyX5 k) := by decide +kernel
abbrev cX5_init : ByteArray := prog_7_method_1_code
def yX5_init : MethodName := ⟨RX5, "<init>", "()V"⟩
abbrev cX5_has : ByteArray := prog_7_method_2_code
def yX5_has : MethodName := ⟨RX5, "has", "(I)Z"⟩
abbrev cX5_add : ByteArray := prog_7_method_3_code
def yX5_add : MethodName := ⟨RX5, "add", "(III)I"⟩
abbrev cX5_isOf : ByteArray := prog_7_method_4_code
def yX5_isOf : MethodName := ⟨RX5, "isOf", "(II)Z"⟩
abbrev cX5_comesTo : ByteArray := prog_7_method_5_code
def yX5_comesTo : MethodName := ⟨RX5, "comesTo", "(II)Z"⟩
abbrev cX5_follow : ByteArray := prog_7_method_6_code
def yX5_follow : MethodName := ⟨RX5, "follow", "(III)I"⟩
abbrev cX5_isWifeOf : ByteArray := prog_7_method_7_code
def yX5_isWifeOf : MethodName := ⟨RX5, "isWifeOf", "(II)Z"⟩
abbrev cX5_become : ByteArray := prog_7_method_8_code
def yX5_become : MethodName := ⟨RX5, "become", "(LPoorDesk$Persons;)V"⟩
def RX6 : String := "PoorDesk$Poor"
def TX6 : u_T := fun k => match k with
  | 0 => ("PoorDesk$Poor", "scale", "I", false)
  | 1 => ("PoorDesk$Poor", "list", "[I", true)
  | 2 => ("PoorDesk$Poor", "since", "[I", true)
  | 3 => ("PoorDesk$Poor", "earned", "[I", true)
  | _ => ("PoorDesk$Poor", "prices", "[I", true)
def tyX6 : Nat → FieldType := fun k => match k with
  | 0 => .int
  | 1 => .array .int
  | 2 => .array .int
  | 3 => .array .int
  | _ => .array .int
theorem nmX6 : ∀ a, a < 5 → ∀ b, b < 5 → a ≠ b → (TX6 a).2.1 ≠ (TX6 b).2.1 := by decide +kernel
theorem tyX6_ok : ∀ k, k < 5 → parseFieldDescriptor (TX6 k).2.2.1 = some (tyX6 k) := by decide +kernel
abbrev cX6_init : ByteArray := prog_8_method_1_code
def yX6_init : MethodName := ⟨RX6, "<init>", "()V"⟩
abbrev cX6_enter : ByteArray := prog_8_method_2_code
def yX6_enter : MethodName := ⟨RX6, "enter", "(I)V"⟩
abbrev cX6_listIn : ByteArray := prog_8_method_3_code
def yX6_listIn : MethodName := ⟨RX6, "listIn", "(II)I"⟩
abbrev cX6_reliefOf : ByteArray := prog_8_method_4_code
def yX6_reliefOf : MethodName := ⟨RX6, "reliefOf", "(LPoorDesk$Persons;II)I"⟩
abbrev cX6_isKeptByHusband : ByteArray := prog_8_method_5_code
def yX6_isKeptByHusband : MethodName := ⟨RX6, "isKeptByHusband", "(LPoorDesk$Persons;II)Z"⟩
abbrev cX6_reliefOfAll : ByteArray := prog_8_method_6_code
def yX6_reliefOfAll : MethodName := ⟨RX6, "reliefOfAll", "(LPoorDesk$Persons;II)I"⟩
abbrev cX6_readPrices : ByteArray := prog_8_method_7_code
def yX6_readPrices : MethodName := ⟨RX6, "readPrices", "(LPoorDesk$Sheet;)I"⟩
abbrev cX6_become : ByteArray := prog_8_method_8_code
def yX6_become : MethodName := ⟨RX6, "become", "(LPoorDesk$Poor;)V"⟩
def RX7 : String := "PoorDesk$Reckoner"
def TX7 : u_T := fun k => match k with
  | 0 => ("PoorDesk$Reckoner", "book", "LPoorDesk$Book;", true)
  | 1 => ("PoorDesk$Reckoner", "gainDay", "[I", true)
  | 2 => ("PoorDesk$Reckoner", "line", "[I", true)
  | 3 => ("PoorDesk$Reckoner", "birthDay", "[I", true)
  | 4 => ("PoorDesk$Reckoner", "doubted", "[I", true)
  | 5 => ("PoorDesk$Reckoner", "setIfSo", "[I", true)
  | 6 => ("PoorDesk$Reckoner", "setIfNot", "[I", true)
  | 7 => ("PoorDesk$Reckoner", "lineLength", "I", false)
  | _ => ("PoorDesk$Reckoner", "doubts", "I", false)
def tyX7 : Nat → FieldType := fun k => match k with
  | 0 => .object "PoorDesk$Book"
  | 1 => .array .int
  | 2 => .array .int
  | 3 => .array .int
  | 4 => .array .int
  | 5 => .array .int
  | 6 => .array .int
  | 7 => .int
  | _ => .int
theorem nmX7 : ∀ a, a < 9 → ∀ b, b < 9 → a ≠ b → (TX7 a).2.1 ≠ (TX7 b).2.1 := by decide +kernel
theorem tyX7_ok : ∀ k, k < 9 → parseFieldDescriptor (TX7 k).2.2.1 = some (tyX7 k) := by decide +kernel
abbrev cX7_init : ByteArray := prog_9_method_1_code
def yX7_init : MethodName := ⟨RX7, "<init>", "(LPoorDesk$Book;)V"⟩
abbrev cX7_ownOf : ByteArray := prog_9_method_2_code
def yX7_ownOf : MethodName := ⟨RX7, "ownOf", "(III)I"⟩
abbrev cX7_settlementOf : ByteArray := prog_9_method_3_code
def yX7_settlementOf : MethodName := ⟨RX7, "settlementOf", "(III)I"⟩
abbrev cX7_tellerOf : ByteArray := prog_9_method_4_code
def yX7_tellerOf : MethodName := ⟨RX7, "tellerOf", "(III)I"⟩
abbrev cX7_couldBe : ByteArray := prog_9_method_5_code
def yX7_couldBe : MethodName := ⟨RX7, "couldBe", "(III)I"⟩
abbrev cX7_bestQuestion : ByteArray := prog_9_method_6_code
def yX7_bestQuestion : MethodName := ⟨RX7, "bestQuestion", "(III)I"⟩
abbrev cX7_prepare : ByteArray := prog_9_method_7_code
def yX7_prepare : MethodName := ⟨RX7, "prepare", "(III)V"⟩
abbrev cX7_gainByFact : ByteArray := prog_9_method_8_code
def yX7_gainByFact : MethodName := ⟨RX7, "gainByFact", "(II)I"⟩
abbrev cX7_gainByBirth : ByteArray := prog_9_method_9_code
def yX7_gainByBirth : MethodName := ⟨RX7, "gainByBirth", "(II)I"⟩
abbrev cX7_leaderOf : ByteArray := prog_9_method_10_code
def yX7_leaderOf : MethodName := ⟨RX7, "leaderOf", "(II)I"⟩
abbrev cX7_ownParish : ByteArray := prog_9_method_11_code
def yX7_ownParish : MethodName := ⟨RX7, "ownParish", "(II)I"⟩
abbrev cX7_teller : ByteArray := prog_9_method_12_code
def yX7_teller : MethodName := ⟨RX7, "teller", "(I)I"⟩
abbrev cX7_settledParish : ByteArray := prog_9_method_13_code
def yX7_settledParish : MethodName := ⟨RX7, "settledParish", "(I)I"⟩
abbrev cX7_tryAllWays : ByteArray := prog_9_method_14_code
def yX7_tryAllWays : MethodName := ⟨RX7, "tryAllWays", "()I"⟩
abbrev cX7_findDoubted : ByteArray := prog_9_method_15_code
def yX7_findDoubted : MethodName := ⟨RX7, "findDoubted", "()V"⟩
abbrev cX7_deniedIn : ByteArray := prog_9_method_16_code
def yX7_deniedIn : MethodName := ⟨RX7, "deniedIn", "(I)I"⟩
def RX8 : String := "PoorDesk$Sheet"
def TX8 : u_T := fun k => match k with
  | 0 => ("PoorDesk$Sheet", "bits", "I", false)
  | 1 => ("PoorDesk$Sheet", "length", "I", false)
  | _ => ("PoorDesk$Sheet", "numbers", "[I", true)
def tyX8 : Nat → FieldType := fun k => match k with
  | 0 => .int
  | 1 => .int
  | _ => .array .int
theorem nmX8 : ∀ a, a < 3 → ∀ b, b < 3 → a ≠ b → (TX8 a).2.1 ≠ (TX8 b).2.1 := by decide +kernel
theorem tyX8_ok : ∀ k, k < 3 → parseFieldDescriptor (TX8 k).2.2.1 = some (tyX8 k) := by decide +kernel
abbrev cX8_init : ByteArray := prog_10_method_1_code
def yX8_init : MethodName := ⟨RX8, "<init>", "()V"⟩
abbrev cX8_isMissing : ByteArray := prog_10_method_2_code
def yX8_isMissing : MethodName := ⟨RX8, "isMissing", "()Z"⟩
abbrev cX8_lay : ByteArray := prog_10_method_3_code
def yX8_lay : MethodName := ⟨RX8, "lay", "(II)V"⟩
abbrev cX8_write : ByteArray := prog_10_method_4_code
def yX8_write : MethodName := ⟨RX8, "write", "(II)V"⟩
abbrev cX8_hasRun : ByteArray := prog_10_method_5_code
def yX8_hasRun : MethodName := ⟨RX8, "hasRun", "(II)Z"⟩
def RX9 : String := "PoorDesk"
def TX9 : u_T := fun k => match k with
  | 0 => ("PoorDesk", "book", "LPoorDesk$Book;", true)
  | 1 => ("PoorDesk", "kept", "LPoorDesk$Book;", true)
  | 2 => ("PoorDesk", "reckoner", "LPoorDesk$Reckoner;", true)
  | 3 => ("PoorDesk", "sheets", "[LPoorDesk$Sheet;", true)
  | 4 => ("PoorDesk", "isKept", "Z", false)
  | _ => ("PoorDesk", "findings", "I", false)
def tyX9 : Nat → FieldType := fun k => match k with
  | 0 => .object "PoorDesk$Book"
  | 1 => .object "PoorDesk$Book"
  | 2 => .object "PoorDesk$Reckoner"
  | 3 => .array (.object "PoorDesk$Sheet")
  | 4 => .boolean
  | _ => .int
theorem nmX9 : ∀ a, a < 6 → ∀ b, b < 6 → a ≠ b → (TX9 a).2.1 ≠ (TX9 b).2.1 := by decide +kernel
theorem tyX9_ok : ∀ k, k < 6 → parseFieldDescriptor (TX9 k).2.2.1 = some (tyX9 k) := by decide +kernel
abbrev cX9_init : ByteArray := prog_1_method_1_code
def yX9_init : MethodName := ⟨RX9, "<init>", "()V"⟩
abbrev cX9_parish : ByteArray := prog_1_method_2_code
def yX9_parish : MethodName := ⟨RX9, "parish", "(I)I"⟩
abbrev cX9_miles : ByteArray := prog_1_method_3_code
def yX9_miles : MethodName := ⟨RX9, "miles", "(III)I"⟩
abbrev cX9_person : ByteArray := prog_1_method_4_code
def yX9_person : MethodName := ⟨RX9, "person", "(III)I"⟩
abbrev cX9_as : ByteArray := prog_1_method_5_code
def yX9_as : MethodName := ⟨RX9, "as", "(II)I"⟩
abbrev cX9_husband : ByteArray := prog_1_method_6_code
def yX9_husband : MethodName := ⟨RX9, "husband", "(III)I"⟩
abbrev cX9_father : ByteArray := prog_1_method_7_code
def yX9_father : MethodName := ⟨RX9, "father", "(II)I"⟩
abbrev cX9_fact : ByteArray := prog_1_method_8_code
def yX9_fact : MethodName := ⟨RX9, "fact", "(IIIIIII)I"⟩
abbrev cX9_doubt : ByteArray := prog_1_method_9_code
def yX9_doubt : MethodName := ⟨RX9, "doubt", "(IZ)I"⟩
abbrev cX9_forget : ByteArray := prog_1_method_10_code
def yX9_forget : MethodName := ⟨RX9, "forget", "()I"⟩
abbrev cX9_law : ByteArray := prog_1_method_11_code
def yX9_law : MethodName := ⟨RX9, "law", "(IIII)I"⟩
abbrev cX9_ends : ByteArray := prog_1_method_12_code
def yX9_ends : MethodName := ⟨RX9, "ends", "(II)I"⟩
abbrev cX9_own : ByteArray := prog_1_method_13_code
def yX9_own : MethodName := ⟨RX9, "own", "(III)I"⟩
abbrev cX9_settlement : ByteArray := prog_1_method_14_code
def yX9_settlement : MethodName := ⟨RX9, "settlement", "(III)I"⟩
abbrev cX9_through : ByteArray := prog_1_method_15_code
def yX9_through : MethodName := ⟨RX9, "through", "(III)I"⟩
abbrev cX9_could : ByteArray := prog_1_method_16_code
def yX9_could : MethodName := ⟨RX9, "could", "(III)I"⟩
abbrev cX9_question : ByteArray := prog_1_method_17_code
def yX9_question : MethodName := ⟨RX9, "question", "(III)I"⟩
abbrev cX9_order : ByteArray := prog_1_method_18_code
def yX9_order : MethodName := ⟨RX9, "order", "(IIII)I"⟩
abbrev cX9_appeal : ByteArray := prog_1_method_19_code
def yX9_appeal : MethodName := ⟨RX9, "appeal", "(II)I"⟩
abbrev cX9_ordered : ByteArray := prog_1_method_20_code
def yX9_ordered : MethodName := ⟨RX9, "ordered", "(II)I"⟩
abbrev cX9_costs : ByteArray := prog_1_method_21_code
def yX9_costs : MethodName := ⟨RX9, "costs", "(I)I"⟩
abbrev cX9_set : ByteArray := prog_1_method_22_code
def yX9_set : MethodName := ⟨RX9, "set", "(II)I"⟩
abbrev cX9_list : ByteArray := prog_1_method_23_code
def yX9_list : MethodName := ⟨RX9, "list", "(III)I"⟩
abbrev cX9_earns : ByteArray := prog_1_method_24_code
def yX9_earns : MethodName := ⟨RX9, "earns", "(II)I"⟩
abbrev cX9_price : ByteArray := prog_1_method_25_code
def yX9_price : MethodName := ⟨RX9, "price", "(II)I"⟩
abbrev cX9_relief : ByteArray := prog_1_method_26_code
def yX9_relief : MethodName := ⟨RX9, "relief", "(II)I"⟩
abbrev cX9_week : ByteArray := prog_1_method_27_code
def yX9_week : MethodName := ⟨RX9, "week", "(II)I"⟩
abbrev cX9_rate : ByteArray := prog_1_method_28_code
def yX9_rate : MethodName := ⟨RX9, "rate", "(II)I"⟩
abbrev cX9_sheet : ByteArray := prog_1_method_29_code
def yX9_sheet : MethodName := ⟨RX9, "sheet", "(III)I"⟩
abbrev cX9_put : ByteArray := prog_1_method_30_code
def yX9_put : MethodName := ⟨RX9, "put", "(III)I"⟩
abbrev cX9_copy : ByteArray := prog_1_method_31_code
def yX9_copy : MethodName := ⟨RX9, "copy", "(IIIII)I"⟩
abbrev cX9_read : ByteArray := prog_1_method_32_code
def yX9_read : MethodName := ⟨RX9, "read", "(I)I"⟩
abbrev cX9_keep : ByteArray := prog_1_method_33_code
def yX9_keep : MethodName := ⟨RX9, "keep", "()I"⟩
abbrev cX9_back : ByteArray := prog_1_method_34_code
def yX9_back : MethodName := ⟨RX9, "back", "()I"⟩
abbrev cX9_told : ByteArray := prog_1_method_35_code
def yX9_told : MethodName := ⟨RX9, "told", "(I)I"⟩
abbrev cX9_finding : ByteArray := prog_1_method_36_code
def yX9_finding : MethodName := ⟨RX9, "finding", "(I)I"⟩
abbrev cX9_parishOrNone : ByteArray := prog_1_method_37_code
def yX9_parishOrNone : MethodName := ⟨RX9, "parishOrNone", "(I)I"⟩
abbrev cX9_canReckon : ByteArray := prog_1_method_38_code
def yX9_canReckon : MethodName := ⟨RX9, "canReckon", "(III)Z"⟩
abbrev cX9_within : ByteArray := prog_1_method_39_code
def yX9_within : MethodName := ⟨RX9, "within", "(III)Z"⟩
abbrev cX9_isDay : ByteArray := prog_1_method_40_code
def yX9_isDay : MethodName := ⟨RX9, "isDay", "(I)Z"⟩
abbrev cX9_isWeek : ByteArray := prog_1_method_41_code
def yX9_isWeek : MethodName := ⟨RX9, "isWeek", "(I)Z"⟩
abbrev cX9_isSheet : ByteArray := prog_1_method_42_code
def yX9_isSheet : MethodName := ⟨RX9, "isSheet", "(I)Z"⟩
abbrev cX9_hasNumber : ByteArray := prog_1_method_43_code
def yX9_hasNumber : MethodName := ⟨RX9, "hasNumber", "(I)Z"⟩
abbrev cX9_copyRow : ByteArray := prog_1_method_44_code
def yX9_copyRow : MethodName := ⟨RX9, "copyRow", "([I[I)V"⟩
def RX10 : String := "PoorDeskModel"
def TX10 : u_T := fun k => match k with
  | 0 => ("PoorDeskModel", "now", "[I", true)
  | 1 => ("PoorDeskModel", "kept", "[I", true)
  | 2 => ("PoorDeskModel", "isKept", "Z", false)
  | 3 => ("PoorDeskModel", "findings", "I", false)
  | 4 => ("PoorDeskModel", "bits", "[I", true)
  | 5 => ("PoorDeskModel", "sizes", "[I", true)
  | 6 => ("PoorDeskModel", "sheets", "[I", true)
  | 7 => ("PoorDeskModel", "notSo", "I", false)
  | 8 => ("PoorDeskModel", "chain", "[I", true)
  | 9 => ("PoorDeskModel", "teller", "I", false)
  | 10 => ("PoorDeskModel", "doubted", "[I", true)
  | 11 => ("PoorDeskModel", "outcome", "[I", true)
  | _ => ("PoorDeskModel", "carried", "[I", true)
def tyX10 : Nat → FieldType := fun k => match k with
  | 0 => .array .int
  | 1 => .array .int
  | 2 => .boolean
  | 3 => .int
  | 4 => .array .int
  | 5 => .array .int
  | 6 => .array .int
  | 7 => .int
  | 8 => .array .int
  | 9 => .int
  | 10 => .array .int
  | 11 => .array .int
  | _ => .array .int
theorem nmX10 : ∀ a, a < 13 → ∀ b, b < 13 → a ≠ b → (TX10 a).2.1 ≠ (TX10 b).2.1 := by decide +kernel
theorem tyX10_ok : ∀ k, k < 13 → parseFieldDescriptor (TX10 k).2.2.1 = some (tyX10 k) := by decide +kernel
abbrev cX10_init : ByteArray := prog_12_method_1_code
def yX10_init : MethodName := ⟨RX10, "<init>", "()V"⟩
abbrev cX10_finding : ByteArray := prog_12_method_2_code
def yX10_finding : MethodName := ⟨RX10, "finding", "(I)I"⟩
abbrev cX10_within : ByteArray := prog_12_method_3_code
def yX10_within : MethodName := ⟨RX10, "within", "(III)Z"⟩
abbrev cX10_isDay : ByteArray := prog_12_method_4_code
def yX10_isDay : MethodName := ⟨RX10, "isDay", "(I)Z"⟩
abbrev cX10_isWeek : ByteArray := prog_12_method_5_code
def yX10_isWeek : MethodName := ⟨RX10, "isWeek", "(I)Z"⟩
abbrev cX10_isParish : ByteArray := prog_12_method_6_code
def yX10_isParish : MethodName := ⟨RX10, "isParish", "(I)Z"⟩
abbrev cX10_isPerson : ByteArray := prog_12_method_7_code
def yX10_isPerson : MethodName := ⟨RX10, "isPerson", "(I)Z"⟩
abbrev cX10_parish : ByteArray := prog_12_method_8_code
def yX10_parish : MethodName := ⟨RX10, "parish", "(I)I"⟩
abbrev cX10_miles : ByteArray := prog_12_method_9_code
def yX10_miles : MethodName := ⟨RX10, "miles", "(III)I"⟩
abbrev cX10_person : ByteArray := prog_12_method_10_code
def yX10_person : MethodName := ⟨RX10, "person", "(III)I"⟩
abbrev cX10_as : ByteArray := prog_12_method_11_code
def yX10_as : MethodName := ⟨RX10, "as", "(II)I"⟩
abbrev cX10_link : ByteArray := prog_12_method_12_code
def yX10_link : MethodName := ⟨RX10, "link", "(III)I"⟩
abbrev cX10_husband : ByteArray := prog_12_method_13_code
def yX10_husband : MethodName := ⟨RX10, "husband", "(III)I"⟩
abbrev cX10_father : ByteArray := prog_12_method_14_code
def yX10_father : MethodName := ⟨RX10, "father", "(II)I"⟩
abbrev cX10_fact : ByteArray := prog_12_method_15_code
def yX10_fact : MethodName := ⟨RX10, "fact", "(IIIIIII)I"⟩
abbrev cX10_doubts : ByteArray := prog_12_method_16_code
def yX10_doubts : MethodName := ⟨RX10, "doubts", "()I"⟩
abbrev cX10_doubt : ByteArray := prog_12_method_17_code
def yX10_doubt : MethodName := ⟨RX10, "doubt", "(IZ)I"⟩
abbrev cX10_forget : ByteArray := prog_12_method_18_code
def yX10_forget : MethodName := ⟨RX10, "forget", "()I"⟩
abbrev cX10_law : ByteArray := prog_12_method_19_code
def yX10_law : MethodName := ⟨RX10, "law", "(IIII)I"⟩
abbrev cX10_ends : ByteArray := prog_12_method_20_code
def yX10_ends : MethodName := ⟨RX10, "ends", "(II)I"⟩
abbrev cX10_isForce : ByteArray := prog_12_method_21_code
def yX10_isForce : MethodName := ⟨RX10, "isForce", "(III)Z"⟩
abbrev cX10_hasLaw : ByteArray := prog_12_method_22_code
def yX10_hasLaw : MethodName := ⟨RX10, "hasLaw", "(III)Z"⟩
abbrev cX10_ownOf : ByteArray := prog_12_method_23_code
def yX10_ownOf : MethodName := ⟨RX10, "ownOf", "(III)I"⟩
abbrev cX10_goesBy : ByteArray := prog_12_method_24_code
def yX10_goesBy : MethodName := ⟨RX10, "goesBy", "(II)Z"⟩
abbrev cX10_settlementOf : ByteArray := prog_12_method_25_code
def yX10_settlementOf : MethodName := ⟨RX10, "settlementOf", "(III)I"⟩
abbrev cX10_canAsk : ByteArray := prog_12_method_26_code
def yX10_canAsk : MethodName := ⟨RX10, "canAsk", "(III)Z"⟩
abbrev cX10_own : ByteArray := prog_12_method_27_code
def yX10_own : MethodName := ⟨RX10, "own", "(III)I"⟩
abbrev cX10_settlement : ByteArray := prog_12_method_28_code
def yX10_settlement : MethodName := ⟨RX10, "settlement", "(III)I"⟩
abbrev cX10_through : ByteArray := prog_12_method_29_code
def yX10_through : MethodName := ⟨RX10, "through", "(III)I"⟩
abbrev cX10_findOutcomes : ByteArray := prog_12_method_30_code
def yX10_findOutcomes : MethodName := ⟨RX10, "findOutcomes", "(III)I"⟩
abbrev cX10_could : ByteArray := prog_12_method_31_code
def yX10_could : MethodName := ⟨RX10, "could", "(III)I"⟩
abbrev cX10_many : ByteArray := prog_12_method_32_code
def yX10_many : MethodName := ⟨RX10, "many", "(I)I"⟩
abbrev cX10_question : ByteArray := prog_12_method_33_code
def yX10_question : MethodName := ⟨RX10, "question", "(III)I"⟩
abbrev cX10_order : ByteArray := prog_12_method_34_code
def yX10_order : MethodName := ⟨RX10, "order", "(IIII)I"⟩
abbrev cX10_isOrder : ByteArray := prog_12_method_35_code
def yX10_isOrder : MethodName := ⟨RX10, "isOrder", "(I)Z"⟩
abbrev cX10_appeal : ByteArray := prog_12_method_36_code
def yX10_appeal : MethodName := ⟨RX10, "appeal", "(II)I"⟩
abbrev cX10_ordered : ByteArray := prog_12_method_37_code
def yX10_ordered : MethodName := ⟨RX10, "ordered", "(II)I"⟩
abbrev cX10_costs : ByteArray := prog_12_method_38_code
def yX10_costs : MethodName := ⟨RX10, "costs", "(I)I"⟩
abbrev cX10_set : ByteArray := prog_12_method_39_code
def yX10_set : MethodName := ⟨RX10, "set", "(II)I"⟩
abbrev cX10_list : ByteArray := prog_12_method_40_code
def yX10_list : MethodName := ⟨RX10, "list", "(III)I"⟩
abbrev cX10_earns : ByteArray := prog_12_method_41_code
def yX10_earns : MethodName := ⟨RX10, "earns", "(II)I"⟩
abbrev cX10_price : ByteArray := prog_12_method_42_code
def yX10_price : MethodName := ⟨RX10, "price", "(II)I"⟩
abbrev cX10_listOf : ByteArray := prog_12_method_43_code
def yX10_listOf : MethodName := ⟨RX10, "listOf", "(II)I"⟩
abbrev cX10_isWifeOf : ByteArray := prog_12_method_44_code
def yX10_isWifeOf : MethodName := ⟨RX10, "isWifeOf", "(II)Z"⟩
abbrev cX10_reliefOf : ByteArray := prog_12_method_45_code
def yX10_reliefOf : MethodName := ⟨RX10, "reliefOf", "(II)I"⟩
abbrev cX10_relief : ByteArray := prog_12_method_46_code
def yX10_relief : MethodName := ⟨RX10, "relief", "(II)I"⟩
abbrev cX10_week : ByteArray := prog_12_method_47_code
def yX10_week : MethodName := ⟨RX10, "week", "(II)I"⟩
abbrev cX10_rate : ByteArray := prog_12_method_48_code
def yX10_rate : MethodName := ⟨RX10, "rate", "(II)I"⟩
abbrev cX10_isSheet : ByteArray := prog_12_method_49_code
def yX10_isSheet : MethodName := ⟨RX10, "isSheet", "(I)Z"⟩
abbrev cX10_sheet : ByteArray := prog_12_method_50_code
def yX10_sheet : MethodName := ⟨RX10, "sheet", "(III)I"⟩
abbrev cX10_put : ByteArray := prog_12_method_51_code
def yX10_put : MethodName := ⟨RX10, "put", "(III)I"⟩
abbrev cX10_copy : ByteArray := prog_12_method_52_code
def yX10_copy : MethodName := ⟨RX10, "copy", "(IIIII)I"⟩
abbrev cX10_read : ByteArray := prog_12_method_53_code
def yX10_read : MethodName := ⟨RX10, "read", "(I)I"⟩
abbrev cX10_keep : ByteArray := prog_12_method_54_code
def yX10_keep : MethodName := ⟨RX10, "keep", "()I"⟩
abbrev cX10_back : ByteArray := prog_12_method_55_code
def yX10_back : MethodName := ⟨RX10, "back", "()I"⟩
abbrev cX10_told : ByteArray := prog_12_method_56_code
def yX10_told : MethodName := ⟨RX10, "told", "(I)I"⟩
def RJ6 : String := "java/lang/Integer"
def TJ6 : u_T := fun k => match k with
  | _ => ("", "", "", false)
def tyJ6 : Nat → FieldType := fun k => match k with
  | _ => .int
theorem nmJ6 : ∀ a, a < 0 → ∀ b, b < 0 → a ≠ b → (TJ6 a).2.1 ≠ (TJ6 b).2.1 := by decide +kernel
theorem tyJ6_ok : ∀ k, k < 0 → parseFieldDescriptor (TJ6 k).2.2.1 = some (tyJ6 k) := by decide +kernel
abbrev cJ6_bitCount_0f7a4 : ByteArray := prog_13_method_49_code
def yJ6_bitCount_0f7a4 : MethodName := ⟨RJ6, "bitCount", "(I)I"⟩
def RJ9 : String := "java/lang/Math"
def TJ9 : u_T := fun k => match k with
  | _ => ("", "", "", false)
def tyJ9 : Nat → FieldType := fun k => match k with
  | _ => .int
theorem nmJ9 : ∀ a, a < 0 → ∀ b, b < 0 → a ≠ b → (TJ9 a).2.1 ≠ (TJ9 b).2.1 := by decide +kernel
theorem tyJ9_ok : ∀ k, k < 0 → parseFieldDescriptor (TJ9 k).2.2.1 = some (tyJ9 k) := by decide +kernel
abbrev cJ9_max_7cf53 : ByteArray := prog_14_method_65_code
def yJ9_max_7cf53 : MethodName := ⟨RJ9, "max", "(II)I"⟩
abbrev cJ9_min_7cf53 : ByteArray := prog_14_method_69_code
def yJ9_min_7cf53 : MethodName := ⟨RJ9, "min", "(II)I"⟩
def RJ10 : String := "java/lang/System"
def TJ10 : u_T := fun k => match k with
  | _ => ("", "", "", false)
def tyJ10 : Nat → FieldType := fun k => match k with
  | _ => .int
theorem nmJ10 : ∀ a, a < 0 → ∀ b, b < 0 → a ≠ b → (TJ10 a).2.1 ≠ (TJ10 b).2.1 := by decide +kernel
theorem tyJ10_ok : ∀ k, k < 0 → parseFieldDescriptor (TJ10 k).2.2.1 = some (tyJ10 k) := by decide +kernel
def RJ7 : String := "java/util/Arrays"
def TJ7 : u_T := fun k => match k with
  | _ => ("", "", "", false)
def tyJ7 : Nat → FieldType := fun k => match k with
  | _ => .int
theorem nmJ7 : ∀ a, a < 0 → ∀ b, b < 0 → a ≠ b → (TJ7 a).2.1 ≠ (TJ7 b).2.1 := by decide +kernel
theorem tyJ7_ok : ∀ k, k < 0 → parseFieldDescriptor (TJ7 k).2.2.1 = some (tyJ7 k) := by decide +kernel
abbrev cJ7_fill_53178 : ByteArray := prog_16_method_103_code
def yJ7_fill_53178 : MethodName := ⟨RJ7, "fill", "([II)V"⟩
def RL : String := "PoorDeskLaw"
abbrev cL_law : ByteArray := code
def yL_law : MethodName := ⟨RL, "law", "([I)Z"⟩
abbrev vwCl : List vw_C := [(RX0, TX0, 7), (RX1, TX1, 9), (RX2, TX2, 5), (RX3, TX3, 7), (RX4, TX4, 3), (RX5, TX5, 6), (RX6, TX6, 5), (RX7, TX7, 9), (RX8, TX8, 3), (RX9, TX9, 6), (RX10, TX10, 13)]
end
section
theorem dX0_init_0 : decode cX0_init 0 = .ok (.aload_n 0, 1) := by decide +kernel
theorem dX0_init_1 : decode cX0_init 1 = .ok (.invokespecial 1, 3) := by decide +kernel
theorem dX0_init_4 : decode cX0_init 4 = .ok (.aload_n 0, 1) := by decide +kernel
theorem dX0_init_5 : decode cX0_init 5 = .ok (.new 7, 3) := by decide +kernel
theorem dX0_init_8 : decode cX0_init 8 = .ok (.dup, 1) := by decide +kernel
theorem dX0_init_9 : decode cX0_init 9 = .ok (.invokespecial 9, 3) := by decide +kernel
theorem dX0_init_12 : decode cX0_init 12 = .ok (.putfield 10, 3) := by decide +kernel
theorem dX0_init_15 : decode cX0_init 15 = .ok (.aload_n 0, 1) := by decide +kernel
theorem dX0_init_16 : decode cX0_init 16 = .ok (.new 16, 3) := by decide +kernel
theorem dX0_init_19 : decode cX0_init 19 = .ok (.dup, 1) := by decide +kernel
theorem dX0_init_20 : decode cX0_init 20 = .ok (.invokespecial 18, 3) := by decide +kernel
theorem dX0_init_23 : decode cX0_init 23 = .ok (.putfield 19, 3) := by decide +kernel
theorem dX0_init_26 : decode cX0_init 26 = .ok (.aload_n 0, 1) := by decide +kernel
theorem dX0_init_27 : decode cX0_init 27 = .ok (.new 23, 3) := by decide +kernel
theorem dX0_init_30 : decode cX0_init 30 = .ok (.dup, 1) := by decide +kernel
theorem dX0_init_31 : decode cX0_init 31 = .ok (.invokespecial 25, 3) := by decide +kernel
theorem dX0_init_34 : decode cX0_init 34 = .ok (.putfield 26, 3) := by decide +kernel
theorem dX0_init_37 : decode cX0_init 37 = .ok (.aload_n 0, 1) := by decide +kernel
theorem dX0_init_38 : decode cX0_init 38 = .ok (.new 30, 3) := by decide +kernel
theorem dX0_init_41 : decode cX0_init 41 = .ok (.dup, 1) := by decide +kernel
theorem dX0_init_42 : decode cX0_init 42 = .ok (.invokespecial 32, 3) := by decide +kernel
theorem dX0_init_45 : decode cX0_init 45 = .ok (.putfield 33, 3) := by decide +kernel
theorem dX0_init_48 : decode cX0_init 48 = .ok (.aload_n 0, 1) := by decide +kernel
theorem dX0_init_49 : decode cX0_init 49 = .ok (.new 37, 3) := by decide +kernel
theorem dX0_init_52 : decode cX0_init 52 = .ok (.dup, 1) := by decide +kernel
theorem dX0_init_53 : decode cX0_init 53 = .ok (.invokespecial 39, 3) := by decide +kernel
theorem dX0_init_56 : decode cX0_init 56 = .ok (.putfield 40, 3) := by decide +kernel
theorem dX0_init_59 : decode cX0_init 59 = .ok (.aload_n 0, 1) := by decide +kernel
theorem dX0_init_60 : decode cX0_init 60 = .ok (.new 44, 3) := by decide +kernel
theorem dX0_init_63 : decode cX0_init 63 = .ok (.dup, 1) := by decide +kernel
theorem dX0_init_64 : decode cX0_init 64 = .ok (.invokespecial 46, 3) := by decide +kernel
theorem dX0_init_67 : decode cX0_init 67 = .ok (.putfield 47, 3) := by decide +kernel
theorem dX0_init_70 : decode cX0_init 70 = .ok (.aload_n 0, 1) := by decide +kernel
theorem dX0_init_71 : decode cX0_init 71 = .ok (.bipush 60, 2) := by decide +kernel
theorem dX0_init_73 : decode cX0_init 73 = .ok (.putfield 51, 3) := by decide +kernel
theorem dX0_init_76 : decode cX0_init 76 = .ok (.return_, 1) := by decide +kernel
theorem dX0_become_0 : decode cX0_become 0 = .ok (.aload_n 0, 1) := by decide +kernel
theorem dX0_become_1 : decode cX0_become 1 = .ok (.getfield 10, 3) := by decide +kernel
theorem dX0_become_4 : decode cX0_become 4 = .ok (.aload_n 1, 1) := by decide +kernel
theorem dX0_become_5 : decode cX0_become 5 = .ok (.getfield 10, 3) := by decide +kernel
theorem dX0_become_8 : decode cX0_become 8 = .ok (.invokevirtual 55, 3) := by decide +kernel
theorem dX0_become_11 : decode cX0_become 11 = .ok (.aload_n 0, 1) := by decide +kernel
theorem dX0_become_12 : decode cX0_become 12 = .ok (.getfield 19, 3) := by decide +kernel
theorem dX0_become_15 : decode cX0_become 15 = .ok (.aload_n 1, 1) := by decide +kernel
theorem dX0_become_16 : decode cX0_become 16 = .ok (.getfield 19, 3) := by decide +kernel
theorem dX0_become_19 : decode cX0_become 19 = .ok (.invokevirtual 59, 3) := by decide +kernel
theorem dX0_become_22 : decode cX0_become 22 = .ok (.aload_n 0, 1) := by decide +kernel
theorem dX0_become_23 : decode cX0_become 23 = .ok (.getfield 26, 3) := by decide +kernel
theorem dX0_become_26 : decode cX0_become 26 = .ok (.aload_n 1, 1) := by decide +kernel
theorem dX0_become_27 : decode cX0_become 27 = .ok (.getfield 26, 3) := by decide +kernel
theorem dX0_become_30 : decode cX0_become 30 = .ok (.invokevirtual 62, 3) := by decide +kernel
theorem dX0_become_33 : decode cX0_become 33 = .ok (.aload_n 0, 1) := by decide +kernel
theorem dX0_become_34 : decode cX0_become 34 = .ok (.getfield 33, 3) := by decide +kernel
theorem dX0_become_37 : decode cX0_become 37 = .ok (.aload_n 1, 1) := by decide +kernel
theorem dX0_become_38 : decode cX0_become 38 = .ok (.getfield 33, 3) := by decide +kernel
theorem dX0_become_41 : decode cX0_become 41 = .ok (.invokevirtual 65, 3) := by decide +kernel
theorem dX0_become_44 : decode cX0_become 44 = .ok (.aload_n 0, 1) := by decide +kernel
theorem dX0_become_45 : decode cX0_become 45 = .ok (.getfield 40, 3) := by decide +kernel
theorem dX0_become_48 : decode cX0_become 48 = .ok (.aload_n 1, 1) := by decide +kernel
theorem dX0_become_49 : decode cX0_become 49 = .ok (.getfield 40, 3) := by decide +kernel
theorem dX0_become_52 : decode cX0_become 52 = .ok (.invokevirtual 68, 3) := by decide +kernel
theorem dX0_become_55 : decode cX0_become 55 = .ok (.aload_n 0, 1) := by decide +kernel
theorem dX0_become_56 : decode cX0_become 56 = .ok (.getfield 47, 3) := by decide +kernel
theorem dX0_become_59 : decode cX0_become 59 = .ok (.aload_n 1, 1) := by decide +kernel
theorem dX0_become_60 : decode cX0_become 60 = .ok (.getfield 47, 3) := by decide +kernel
theorem dX0_become_63 : decode cX0_become 63 = .ok (.invokevirtual 71, 3) := by decide +kernel
theorem dX0_become_66 : decode cX0_become 66 = .ok (.aload_n 0, 1) := by decide +kernel
theorem dX0_become_67 : decode cX0_become 67 = .ok (.aload_n 1, 1) := by decide +kernel
theorem dX0_become_68 : decode cX0_become 68 = .ok (.getfield 51, 3) := by decide +kernel
theorem dX0_become_71 : decode cX0_become 71 = .ok (.putfield 51, 3) := by decide +kernel
theorem dX0_become_74 : decode cX0_become 74 = .ok (.return_, 1) := by decide +kernel
theorem dX1_init_0 : decode cX1_init 0 = .ok (.aload_n 0, 1) := by decide +kernel
theorem dX1_init_1 : decode cX1_init 1 = .ok (.invokespecial 3, 3) := by decide +kernel
theorem dX1_init_4 : decode cX1_init 4 = .ok (.aload_n 0, 1) := by decide +kernel
theorem dX1_init_5 : decode cX1_init 5 = .ok (.bipush 24, 2) := by decide +kernel
theorem dX1_init_7 : decode cX1_init 7 = .ok (.newarray .int, 2) := by decide +kernel
theorem dX1_init_9 : decode cX1_init 9 = .ok (.putfield 9, 3) := by decide +kernel
theorem dX1_init_12 : decode cX1_init 12 = .ok (.aload_n 0, 1) := by decide +kernel
theorem dX1_init_13 : decode cX1_init 13 = .ok (.bipush 24, 2) := by decide +kernel
theorem dX1_init_15 : decode cX1_init 15 = .ok (.newarray .int, 2) := by decide +kernel
theorem dX1_init_17 : decode cX1_init 17 = .ok (.putfield 15, 3) := by decide +kernel
theorem dX1_init_20 : decode cX1_init 20 = .ok (.aload_n 0, 1) := by decide +kernel
theorem dX1_init_21 : decode cX1_init 21 = .ok (.bipush 24, 2) := by decide +kernel
theorem dX1_init_23 : decode cX1_init 23 = .ok (.newarray .int, 2) := by decide +kernel
theorem dX1_init_25 : decode cX1_init 25 = .ok (.putfield 18, 3) := by decide +kernel
theorem dX1_init_28 : decode cX1_init 28 = .ok (.aload_n 0, 1) := by decide +kernel
theorem dX1_init_29 : decode cX1_init 29 = .ok (.bipush 24, 2) := by decide +kernel
theorem dX1_init_31 : decode cX1_init 31 = .ok (.newarray .int, 2) := by decide +kernel
theorem dX1_init_33 : decode cX1_init 33 = .ok (.putfield 21, 3) := by decide +kernel
theorem dX1_init_36 : decode cX1_init 36 = .ok (.aload_n 0, 1) := by decide +kernel
theorem dX1_init_37 : decode cX1_init 37 = .ok (.bipush 24, 2) := by decide +kernel
theorem dX1_init_39 : decode cX1_init 39 = .ok (.newarray .int, 2) := by decide +kernel
theorem dX1_init_41 : decode cX1_init 41 = .ok (.putfield 24, 3) := by decide +kernel
theorem dX1_init_44 : decode cX1_init 44 = .ok (.aload_n 0, 1) := by decide +kernel
theorem dX1_init_45 : decode cX1_init 45 = .ok (.bipush 24, 2) := by decide +kernel
theorem dX1_init_47 : decode cX1_init 47 = .ok (.newarray .int, 2) := by decide +kernel
theorem dX1_init_49 : decode cX1_init 49 = .ok (.putfield 27, 3) := by decide +kernel
theorem dX1_init_52 : decode cX1_init 52 = .ok (.aload_n 0, 1) := by decide +kernel
theorem dX1_init_53 : decode cX1_init 53 = .ok (.bipush 24, 2) := by decide +kernel
theorem dX1_init_55 : decode cX1_init 55 = .ok (.newarray .int, 2) := by decide +kernel
theorem dX1_init_57 : decode cX1_init 57 = .ok (.putfield 30, 3) := by decide +kernel
theorem dX1_init_60 : decode cX1_init 60 = .ok (.aload_n 0, 1) := by decide +kernel
theorem dX1_init_61 : decode cX1_init 61 = .ok (.bipush 24, 2) := by decide +kernel
theorem dX1_init_63 : decode cX1_init 63 = .ok (.newarray .int, 2) := by decide +kernel
theorem dX1_init_65 : decode cX1_init 65 = .ok (.putfield 33, 3) := by decide +kernel
theorem dX1_init_68 : decode cX1_init 68 = .ok (.return_, 1) := by decide +kernel
theorem dX1_has_0 : decode cX1_has 0 = .ok (.iload_n 1, 1) := by decide +kernel
theorem dX1_has_1 : decode cX1_has 1 = .ok (.ifCond .lt 15, 3) := by decide +kernel
theorem dX1_has_4 : decode cX1_has 4 = .ok (.iload_n 1, 1) := by decide +kernel
theorem dX1_has_5 : decode cX1_has 5 = .ok (.aload_n 0, 1) := by decide +kernel
theorem dX1_has_6 : decode cX1_has 6 = .ok (.getfield 36, 3) := by decide +kernel
theorem dX1_has_9 : decode cX1_has 9 = .ok (.if_icmp .ge 7, 3) := by decide +kernel
theorem dX1_has_12 : decode cX1_has 12 = .ok (.iconst 1, 1) := by decide +kernel
theorem dX1_has_13 : decode cX1_has 13 = .ok (.goto 4, 3) := by decide +kernel
theorem dX1_has_16 : decode cX1_has 16 = .ok (.iconst 0, 1) := by decide +kernel
theorem dX1_has_17 : decode cX1_has 17 = .ok (.ireturn, 1) := by decide +kernel
theorem dX1_add_0 : decode cX1_add 0 = .ok (.aload_n 0, 1) := by decide +kernel
theorem dX1_add_1 : decode cX1_add 1 = .ok (.getfield 9, 3) := by decide +kernel
theorem dX1_add_4 : decode cX1_add 4 = .ok (.aload_n 0, 1) := by decide +kernel
theorem dX1_add_5 : decode cX1_add 5 = .ok (.getfield 36, 3) := by decide +kernel
theorem dX1_add_8 : decode cX1_add 8 = .ok (.iload_n 1, 1) := by decide +kernel
theorem dX1_add_9 : decode cX1_add 9 = .ok (.iastore, 1) := by decide +kernel
theorem dX1_add_10 : decode cX1_add 10 = .ok (.aload_n 0, 1) := by decide +kernel
theorem dX1_add_11 : decode cX1_add 11 = .ok (.getfield 15, 3) := by decide +kernel
theorem dX1_add_14 : decode cX1_add 14 = .ok (.aload_n 0, 1) := by decide +kernel
theorem dX1_add_15 : decode cX1_add 15 = .ok (.getfield 36, 3) := by decide +kernel
theorem dX1_add_18 : decode cX1_add 18 = .ok (.iload_n 2, 1) := by decide +kernel
theorem dX1_add_19 : decode cX1_add 19 = .ok (.iastore, 1) := by decide +kernel
theorem dX1_add_20 : decode cX1_add 20 = .ok (.aload_n 0, 1) := by decide +kernel
theorem dX1_add_21 : decode cX1_add 21 = .ok (.getfield 18, 3) := by decide +kernel
theorem dX1_add_24 : decode cX1_add 24 = .ok (.aload_n 0, 1) := by decide +kernel
theorem dX1_add_25 : decode cX1_add 25 = .ok (.getfield 36, 3) := by decide +kernel
theorem dX1_add_28 : decode cX1_add 28 = .ok (.iload_n 3, 1) := by decide +kernel
theorem dX1_add_29 : decode cX1_add 29 = .ok (.iastore, 1) := by decide +kernel
theorem dX1_add_30 : decode cX1_add 30 = .ok (.aload_n 0, 1) := by decide +kernel
theorem dX1_add_31 : decode cX1_add 31 = .ok (.getfield 21, 3) := by decide +kernel
theorem dX1_add_34 : decode cX1_add 34 = .ok (.aload_n 0, 1) := by decide +kernel
theorem dX1_add_35 : decode cX1_add 35 = .ok (.getfield 36, 3) := by decide +kernel
theorem dX1_add_38 : decode cX1_add 38 = .ok (.iload 4, 2) := by decide +kernel
theorem dX1_add_40 : decode cX1_add 40 = .ok (.iastore, 1) := by decide +kernel
theorem dX1_add_41 : decode cX1_add 41 = .ok (.aload_n 0, 1) := by decide +kernel
theorem dX1_add_42 : decode cX1_add 42 = .ok (.getfield 24, 3) := by decide +kernel
theorem dX1_add_45 : decode cX1_add 45 = .ok (.aload_n 0, 1) := by decide +kernel
theorem dX1_add_46 : decode cX1_add 46 = .ok (.getfield 36, 3) := by decide +kernel
theorem dX1_add_49 : decode cX1_add 49 = .ok (.iload 5, 2) := by decide +kernel
theorem dX1_add_51 : decode cX1_add 51 = .ok (.iastore, 1) := by decide +kernel
theorem dX1_add_52 : decode cX1_add 52 = .ok (.aload_n 0, 1) := by decide +kernel
theorem dX1_add_53 : decode cX1_add 53 = .ok (.getfield 27, 3) := by decide +kernel
theorem dX1_add_56 : decode cX1_add 56 = .ok (.aload_n 0, 1) := by decide +kernel
theorem dX1_add_57 : decode cX1_add 57 = .ok (.getfield 36, 3) := by decide +kernel
theorem dX1_add_60 : decode cX1_add 60 = .ok (.iload 6, 2) := by decide +kernel
theorem dX1_add_62 : decode cX1_add 62 = .ok (.iastore, 1) := by decide +kernel
theorem dX1_add_63 : decode cX1_add 63 = .ok (.aload_n 0, 1) := by decide +kernel
theorem dX1_add_64 : decode cX1_add 64 = .ok (.getfield 30, 3) := by decide +kernel
theorem dX1_add_67 : decode cX1_add 67 = .ok (.aload_n 0, 1) := by decide +kernel
theorem dX1_add_68 : decode cX1_add 68 = .ok (.getfield 36, 3) := by decide +kernel
theorem dX1_add_71 : decode cX1_add 71 = .ok (.iload 7, 2) := by decide +kernel
theorem dX1_add_73 : decode cX1_add 73 = .ok (.iastore, 1) := by decide +kernel
theorem dX1_add_74 : decode cX1_add 74 = .ok (.aload_n 0, 1) := by decide +kernel
theorem dX1_add_75 : decode cX1_add 75 = .ok (.getfield 33, 3) := by decide +kernel
theorem dX1_add_78 : decode cX1_add 78 = .ok (.aload_n 0, 1) := by decide +kernel
theorem dX1_add_79 : decode cX1_add 79 = .ok (.getfield 36, 3) := by decide +kernel
theorem dX1_add_82 : decode cX1_add 82 = .ok (.iconst 0, 1) := by decide +kernel
theorem dX1_add_83 : decode cX1_add 83 = .ok (.iastore, 1) := by decide +kernel
theorem dX1_add_84 : decode cX1_add 84 = .ok (.aload_n 0, 1) := by decide +kernel
theorem dX1_add_85 : decode cX1_add 85 = .ok (.dup, 1) := by decide +kernel
theorem dX1_add_86 : decode cX1_add 86 = .ok (.getfield 36, 3) := by decide +kernel
theorem dX1_add_89 : decode cX1_add 89 = .ok (.iconst 1, 1) := by decide +kernel
theorem dX1_add_90 : decode cX1_add 90 = .ok (.iadd, 1) := by decide +kernel
theorem dX1_add_91 : decode cX1_add 91 = .ok (.putfield 36, 3) := by decide +kernel
theorem dX1_add_94 : decode cX1_add 94 = .ok (.aload_n 0, 1) := by decide +kernel
theorem dX1_add_95 : decode cX1_add 95 = .ok (.getfield 36, 3) := by decide +kernel
theorem dX1_add_98 : decode cX1_add 98 = .ok (.iconst 1, 1) := by decide +kernel
theorem dX1_add_99 : decode cX1_add 99 = .ok (.isub, 1) := by decide +kernel
theorem dX1_add_100 : decode cX1_add 100 = .ok (.ireturn, 1) := by decide +kernel
theorem dX1_isDoubted_0 : decode cX1_isDoubted 0 = .ok (.aload_n 0, 1) := by decide +kernel
theorem dX1_isDoubted_1 : decode cX1_isDoubted 1 = .ok (.getfield 33, 3) := by decide +kernel
theorem dX1_isDoubted_4 : decode cX1_isDoubted 4 = .ok (.iload_n 1, 1) := by decide +kernel
theorem dX1_isDoubted_5 : decode cX1_isDoubted 5 = .ok (.iaload, 1) := by decide +kernel
theorem dX1_isDoubted_6 : decode cX1_isDoubted 6 = .ok (.iconst 1, 1) := by decide +kernel
theorem dX1_isDoubted_7 : decode cX1_isDoubted 7 = .ok (.if_icmp .ne 7, 3) := by decide +kernel
theorem dX1_isDoubted_10 : decode cX1_isDoubted 10 = .ok (.iconst 1, 1) := by decide +kernel
theorem dX1_isDoubted_11 : decode cX1_isDoubted 11 = .ok (.goto 4, 3) := by decide +kernel
theorem dX1_isDoubted_14 : decode cX1_isDoubted 14 = .ok (.iconst 0, 1) := by decide +kernel
theorem dX1_isDoubted_15 : decode cX1_isDoubted 15 = .ok (.ireturn, 1) := by decide +kernel
theorem dX1_countDoubted_0 : decode cX1_countDoubted 0 = .ok (.iconst 0, 1) := by decide +kernel
theorem dX1_countDoubted_1 : decode cX1_countDoubted 1 = .ok (.istore_n 1, 1) := by decide +kernel
theorem dX1_countDoubted_2 : decode cX1_countDoubted 2 = .ok (.iconst 0, 1) := by decide +kernel
theorem dX1_countDoubted_3 : decode cX1_countDoubted 3 = .ok (.istore_n 2, 1) := by decide +kernel
theorem dX1_countDoubted_4 : decode cX1_countDoubted 4 = .ok (.iload_n 2, 1) := by decide +kernel
theorem dX1_countDoubted_5 : decode cX1_countDoubted 5 = .ok (.aload_n 0, 1) := by decide +kernel
theorem dX1_countDoubted_6 : decode cX1_countDoubted 6 = .ok (.getfield 36, 3) := by decide +kernel
theorem dX1_countDoubted_9 : decode cX1_countDoubted 9 = .ok (.if_icmp .ge 18, 3) := by decide +kernel
theorem dX1_countDoubted_12 : decode cX1_countDoubted 12 = .ok (.iload_n 1, 1) := by decide +kernel
theorem dX1_countDoubted_13 : decode cX1_countDoubted 13 = .ok (.aload_n 0, 1) := by decide +kernel
theorem dX1_countDoubted_14 : decode cX1_countDoubted 14 = .ok (.getfield 33, 3) := by decide +kernel
theorem dX1_countDoubted_17 : decode cX1_countDoubted 17 = .ok (.iload_n 2, 1) := by decide +kernel
theorem dX1_countDoubted_18 : decode cX1_countDoubted 18 = .ok (.iaload, 1) := by decide +kernel
theorem dX1_countDoubted_19 : decode cX1_countDoubted 19 = .ok (.iadd, 1) := by decide +kernel
theorem dX1_countDoubted_20 : decode cX1_countDoubted 20 = .ok (.istore_n 1, 1) := by decide +kernel
theorem dX1_countDoubted_21 : decode cX1_countDoubted 21 = .ok (.iinc 2 1, 3) := by decide +kernel
theorem dX1_countDoubted_24 : decode cX1_countDoubted 24 = .ok (.goto (-20), 3) := by decide +kernel
theorem dX1_countDoubted_27 : decode cX1_countDoubted 27 = .ok (.iload_n 1, 1) := by decide +kernel
theorem dX1_countDoubted_28 : decode cX1_countDoubted 28 = .ok (.ireturn, 1) := by decide +kernel
theorem dX1_become_0 : decode cX1_become 0 = .ok (.aload_n 0, 1) := by decide +kernel
theorem dX1_become_1 : decode cX1_become 1 = .ok (.aload_n 1, 1) := by decide +kernel
theorem dX1_become_2 : decode cX1_become 2 = .ok (.getfield 36, 3) := by decide +kernel
theorem dX1_become_5 : decode cX1_become 5 = .ok (.putfield 36, 3) := by decide +kernel
theorem dX1_become_8 : decode cX1_become 8 = .ok (.aload_n 1, 1) := by decide +kernel
theorem dX1_become_9 : decode cX1_become 9 = .ok (.getfield 9, 3) := by decide +kernel
theorem dX1_become_12 : decode cX1_become 12 = .ok (.aload_n 0, 1) := by decide +kernel
theorem dX1_become_13 : decode cX1_become 13 = .ok (.getfield 9, 3) := by decide +kernel
theorem dX1_become_16 : decode cX1_become 16 = .ok (.invokestatic 40, 3) := by decide +kernel
theorem dX1_become_19 : decode cX1_become 19 = .ok (.aload_n 1, 1) := by decide +kernel
theorem dX1_become_20 : decode cX1_become 20 = .ok (.getfield 15, 3) := by decide +kernel
theorem dX1_become_23 : decode cX1_become 23 = .ok (.aload_n 0, 1) := by decide +kernel
theorem dX1_become_24 : decode cX1_become 24 = .ok (.getfield 15, 3) := by decide +kernel
theorem dX1_become_27 : decode cX1_become 27 = .ok (.invokestatic 40, 3) := by decide +kernel
theorem dX1_become_30 : decode cX1_become 30 = .ok (.aload_n 1, 1) := by decide +kernel
theorem dX1_become_31 : decode cX1_become 31 = .ok (.getfield 18, 3) := by decide +kernel
theorem dX1_become_34 : decode cX1_become 34 = .ok (.aload_n 0, 1) := by decide +kernel
theorem dX1_become_35 : decode cX1_become 35 = .ok (.getfield 18, 3) := by decide +kernel
theorem dX1_become_38 : decode cX1_become 38 = .ok (.invokestatic 40, 3) := by decide +kernel
theorem dX1_become_41 : decode cX1_become 41 = .ok (.aload_n 1, 1) := by decide +kernel
theorem dX1_become_42 : decode cX1_become 42 = .ok (.getfield 21, 3) := by decide +kernel
theorem dX1_become_45 : decode cX1_become 45 = .ok (.aload_n 0, 1) := by decide +kernel
theorem dX1_become_46 : decode cX1_become 46 = .ok (.getfield 21, 3) := by decide +kernel
theorem dX1_become_49 : decode cX1_become 49 = .ok (.invokestatic 40, 3) := by decide +kernel
theorem dX1_become_52 : decode cX1_become 52 = .ok (.aload_n 1, 1) := by decide +kernel
theorem dX1_become_53 : decode cX1_become 53 = .ok (.getfield 24, 3) := by decide +kernel
theorem dX1_become_56 : decode cX1_become 56 = .ok (.aload_n 0, 1) := by decide +kernel
theorem dX1_become_57 : decode cX1_become 57 = .ok (.getfield 24, 3) := by decide +kernel
theorem dX1_become_60 : decode cX1_become 60 = .ok (.invokestatic 40, 3) := by decide +kernel
theorem dX1_become_63 : decode cX1_become 63 = .ok (.aload_n 1, 1) := by decide +kernel
theorem dX1_become_64 : decode cX1_become 64 = .ok (.getfield 27, 3) := by decide +kernel
theorem dX1_become_67 : decode cX1_become 67 = .ok (.aload_n 0, 1) := by decide +kernel
theorem dX1_become_68 : decode cX1_become 68 = .ok (.getfield 27, 3) := by decide +kernel
theorem dX1_become_71 : decode cX1_become 71 = .ok (.invokestatic 40, 3) := by decide +kernel
theorem dX1_become_74 : decode cX1_become 74 = .ok (.aload_n 1, 1) := by decide +kernel
theorem dX1_become_75 : decode cX1_become 75 = .ok (.getfield 30, 3) := by decide +kernel
theorem dX1_become_78 : decode cX1_become 78 = .ok (.aload_n 0, 1) := by decide +kernel
theorem dX1_become_79 : decode cX1_become 79 = .ok (.getfield 30, 3) := by decide +kernel
theorem dX1_become_82 : decode cX1_become 82 = .ok (.invokestatic 40, 3) := by decide +kernel
theorem dX1_become_85 : decode cX1_become 85 = .ok (.aload_n 1, 1) := by decide +kernel
theorem dX1_become_86 : decode cX1_become 86 = .ok (.getfield 33, 3) := by decide +kernel
theorem dX1_become_89 : decode cX1_become 89 = .ok (.aload_n 0, 1) := by decide +kernel
theorem dX1_become_90 : decode cX1_become 90 = .ok (.getfield 33, 3) := by decide +kernel
theorem dX1_become_93 : decode cX1_become 93 = .ok (.invokestatic 40, 3) := by decide +kernel
theorem dX1_become_96 : decode cX1_become 96 = .ok (.return_, 1) := by decide +kernel
theorem dX2_init_0 : decode cX2_init 0 = .ok (.aload_n 0, 1) := by decide +kernel
theorem dX2_init_1 : decode cX2_init 1 = .ok (.invokespecial 3, 3) := by decide +kernel
theorem dX2_init_4 : decode cX2_init 4 = .ok (.aload_n 0, 1) := by decide +kernel
theorem dX2_init_5 : decode cX2_init 5 = .ok (.bipush 12, 2) := by decide +kernel
theorem dX2_init_7 : decode cX2_init 7 = .ok (.newarray .int, 2) := by decide +kernel
theorem dX2_init_9 : decode cX2_init 9 = .ok (.putfield 9, 3) := by decide +kernel
theorem dX2_init_12 : decode cX2_init 12 = .ok (.aload_n 0, 1) := by decide +kernel
theorem dX2_init_13 : decode cX2_init 13 = .ok (.bipush 12, 2) := by decide +kernel
theorem dX2_init_15 : decode cX2_init 15 = .ok (.newarray .int, 2) := by decide +kernel
theorem dX2_init_17 : decode cX2_init 17 = .ok (.putfield 15, 3) := by decide +kernel
theorem dX2_init_20 : decode cX2_init 20 = .ok (.aload_n 0, 1) := by decide +kernel
theorem dX2_init_21 : decode cX2_init 21 = .ok (.bipush 12, 2) := by decide +kernel
theorem dX2_init_23 : decode cX2_init 23 = .ok (.newarray .int, 2) := by decide +kernel
theorem dX2_init_25 : decode cX2_init 25 = .ok (.putfield 18, 3) := by decide +kernel
theorem dX2_init_28 : decode cX2_init 28 = .ok (.aload_n 0, 1) := by decide +kernel
theorem dX2_init_29 : decode cX2_init 29 = .ok (.bipush 12, 2) := by decide +kernel
theorem dX2_init_31 : decode cX2_init 31 = .ok (.newarray .int, 2) := by decide +kernel
theorem dX2_init_33 : decode cX2_init 33 = .ok (.putfield 21, 3) := by decide +kernel
theorem dX2_init_36 : decode cX2_init 36 = .ok (.return_, 1) := by decide +kernel
theorem dX2_has_0 : decode cX2_has 0 = .ok (.iload_n 1, 1) := by decide +kernel
theorem dX2_has_1 : decode cX2_has 1 = .ok (.ifCond .lt 15, 3) := by decide +kernel
theorem dX2_has_4 : decode cX2_has 4 = .ok (.iload_n 1, 1) := by decide +kernel
theorem dX2_has_5 : decode cX2_has 5 = .ok (.aload_n 0, 1) := by decide +kernel
theorem dX2_has_6 : decode cX2_has 6 = .ok (.getfield 24, 3) := by decide +kernel
theorem dX2_has_9 : decode cX2_has 9 = .ok (.if_icmp .ge 7, 3) := by decide +kernel
theorem dX2_has_12 : decode cX2_has 12 = .ok (.iconst 1, 1) := by decide +kernel
theorem dX2_has_13 : decode cX2_has 13 = .ok (.goto 4, 3) := by decide +kernel
theorem dX2_has_16 : decode cX2_has 16 = .ok (.iconst 0, 1) := by decide +kernel
theorem dX2_has_17 : decode cX2_has 17 = .ok (.ireturn, 1) := by decide +kernel
theorem dX2_add_0 : decode cX2_add 0 = .ok (.aload_n 0, 1) := by decide +kernel
theorem dX2_add_1 : decode cX2_add 1 = .ok (.getfield 9, 3) := by decide +kernel
theorem dX2_add_4 : decode cX2_add 4 = .ok (.aload_n 0, 1) := by decide +kernel
theorem dX2_add_5 : decode cX2_add 5 = .ok (.getfield 24, 3) := by decide +kernel
theorem dX2_add_8 : decode cX2_add 8 = .ok (.iload_n 1, 1) := by decide +kernel
theorem dX2_add_9 : decode cX2_add 9 = .ok (.iastore, 1) := by decide +kernel
theorem dX2_add_10 : decode cX2_add 10 = .ok (.aload_n 0, 1) := by decide +kernel
theorem dX2_add_11 : decode cX2_add 11 = .ok (.getfield 15, 3) := by decide +kernel
theorem dX2_add_14 : decode cX2_add 14 = .ok (.aload_n 0, 1) := by decide +kernel
theorem dX2_add_15 : decode cX2_add 15 = .ok (.getfield 24, 3) := by decide +kernel
theorem dX2_add_18 : decode cX2_add 18 = .ok (.iload_n 2, 1) := by decide +kernel
theorem dX2_add_19 : decode cX2_add 19 = .ok (.iastore, 1) := by decide +kernel
theorem dX2_add_20 : decode cX2_add 20 = .ok (.aload_n 0, 1) := by decide +kernel
theorem dX2_add_21 : decode cX2_add 21 = .ok (.getfield 18, 3) := by decide +kernel
theorem dX2_add_24 : decode cX2_add 24 = .ok (.aload_n 0, 1) := by decide +kernel
theorem dX2_add_25 : decode cX2_add 25 = .ok (.getfield 24, 3) := by decide +kernel
theorem dX2_add_28 : decode cX2_add 28 = .ok (.iload_n 3, 1) := by decide +kernel
theorem dX2_add_29 : decode cX2_add 29 = .ok (.iastore, 1) := by decide +kernel
theorem dX2_add_30 : decode cX2_add 30 = .ok (.aload_n 0, 1) := by decide +kernel
theorem dX2_add_31 : decode cX2_add 31 = .ok (.getfield 21, 3) := by decide +kernel
theorem dX2_add_34 : decode cX2_add 34 = .ok (.aload_n 0, 1) := by decide +kernel
theorem dX2_add_35 : decode cX2_add 35 = .ok (.getfield 24, 3) := by decide +kernel
theorem dX2_add_38 : decode cX2_add 38 = .ok (.iload 4, 2) := by decide +kernel
theorem dX2_add_40 : decode cX2_add 40 = .ok (.iastore, 1) := by decide +kernel
theorem dX2_add_41 : decode cX2_add 41 = .ok (.aload_n 0, 1) := by decide +kernel
theorem dX2_add_42 : decode cX2_add 42 = .ok (.dup, 1) := by decide +kernel
theorem dX2_add_43 : decode cX2_add 43 = .ok (.getfield 24, 3) := by decide +kernel
theorem dX2_add_46 : decode cX2_add 46 = .ok (.iconst 1, 1) := by decide +kernel
theorem dX2_add_47 : decode cX2_add 47 = .ok (.iadd, 1) := by decide +kernel
theorem dX2_add_48 : decode cX2_add 48 = .ok (.putfield 24, 3) := by decide +kernel
theorem dX2_add_51 : decode cX2_add 51 = .ok (.aload_n 0, 1) := by decide +kernel
theorem dX2_add_52 : decode cX2_add 52 = .ok (.getfield 24, 3) := by decide +kernel
theorem dX2_add_55 : decode cX2_add 55 = .ok (.iconst 1, 1) := by decide +kernel
theorem dX2_add_56 : decode cX2_add 56 = .ok (.isub, 1) := by decide +kernel
theorem dX2_add_57 : decode cX2_add 57 = .ok (.ireturn, 1) := by decide +kernel
theorem dX2_rules_0 : decode cX2_rules 0 = .ok (.aload_n 0, 1) := by decide +kernel
theorem dX2_rules_1 : decode cX2_rules 1 = .ok (.getfield 9, 3) := by decide +kernel
theorem dX2_rules_4 : decode cX2_rules 4 = .ok (.iload_n 1, 1) := by decide +kernel
theorem dX2_rules_5 : decode cX2_rules 5 = .ok (.iaload, 1) := by decide +kernel
theorem dX2_rules_6 : decode cX2_rules 6 = .ok (.iload_n 2, 1) := by decide +kernel
theorem dX2_rules_7 : decode cX2_rules 7 = .ok (.if_icmp .ne 27, 3) := by decide +kernel
theorem dX2_rules_10 : decode cX2_rules 10 = .ok (.aload_n 0, 1) := by decide +kernel
theorem dX2_rules_11 : decode cX2_rules 11 = .ok (.getfield 18, 3) := by decide +kernel
theorem dX2_rules_14 : decode cX2_rules 14 = .ok (.iload_n 1, 1) := by decide +kernel
theorem dX2_rules_15 : decode cX2_rules 15 = .ok (.iaload, 1) := by decide +kernel
theorem dX2_rules_16 : decode cX2_rules 16 = .ok (.iload_n 3, 1) := by decide +kernel
theorem dX2_rules_17 : decode cX2_rules 17 = .ok (.if_icmp .gt 17, 3) := by decide +kernel
theorem dX2_rules_20 : decode cX2_rules 20 = .ok (.iload_n 3, 1) := by decide +kernel
theorem dX2_rules_21 : decode cX2_rules 21 = .ok (.aload_n 0, 1) := by decide +kernel
theorem dX2_rules_22 : decode cX2_rules 22 = .ok (.getfield 21, 3) := by decide +kernel
theorem dX2_rules_25 : decode cX2_rules 25 = .ok (.iload_n 1, 1) := by decide +kernel
theorem dX2_rules_26 : decode cX2_rules 26 = .ok (.iaload, 1) := by decide +kernel
theorem dX2_rules_27 : decode cX2_rules 27 = .ok (.if_icmp .gt 7, 3) := by decide +kernel
theorem dX2_rules_30 : decode cX2_rules 30 = .ok (.iconst 1, 1) := by decide +kernel
theorem dX2_rules_31 : decode cX2_rules 31 = .ok (.goto 4, 3) := by decide +kernel
theorem dX2_rules_34 : decode cX2_rules 34 = .ok (.iconst 0, 1) := by decide +kernel
theorem dX2_rules_35 : decode cX2_rules 35 = .ok (.ireturn, 1) := by decide +kernel
theorem dX2_anyRules_0 : decode cX2_anyRules 0 = .ok (.iconst 0, 1) := by decide +kernel
theorem dX2_anyRules_1 : decode cX2_anyRules 1 = .ok (.istore_n 3, 1) := by decide +kernel
theorem dX2_anyRules_2 : decode cX2_anyRules 2 = .ok (.iload_n 3, 1) := by decide +kernel
theorem dX2_anyRules_3 : decode cX2_anyRules 3 = .ok (.aload_n 0, 1) := by decide +kernel
theorem dX2_anyRules_4 : decode cX2_anyRules 4 = .ok (.getfield 24, 3) := by decide +kernel
theorem dX2_anyRules_7 : decode cX2_anyRules 7 = .ok (.if_icmp .ge 21, 3) := by decide +kernel
theorem dX2_anyRules_10 : decode cX2_anyRules 10 = .ok (.aload_n 0, 1) := by decide +kernel
theorem dX2_anyRules_11 : decode cX2_anyRules 11 = .ok (.iload_n 3, 1) := by decide +kernel
theorem dX2_anyRules_12 : decode cX2_anyRules 12 = .ok (.iload_n 1, 1) := by decide +kernel
theorem dX2_anyRules_13 : decode cX2_anyRules 13 = .ok (.iload_n 2, 1) := by decide +kernel
theorem dX2_anyRules_14 : decode cX2_anyRules 14 = .ok (.invokevirtual 28, 3) := by decide +kernel
theorem dX2_anyRules_17 : decode cX2_anyRules 17 = .ok (.ifCond .eq 5, 3) := by decide +kernel
theorem dX2_anyRules_20 : decode cX2_anyRules 20 = .ok (.iconst 1, 1) := by decide +kernel
theorem dX2_anyRules_21 : decode cX2_anyRules 21 = .ok (.ireturn, 1) := by decide +kernel
theorem dX2_anyRules_22 : decode cX2_anyRules 22 = .ok (.iinc 3 1, 3) := by decide +kernel
theorem dX2_anyRules_25 : decode cX2_anyRules 25 = .ok (.goto (-23), 3) := by decide +kernel
theorem dX2_anyRules_28 : decode cX2_anyRules 28 = .ok (.iconst 0, 1) := by decide +kernel
theorem dX2_anyRules_29 : decode cX2_anyRules 29 = .ok (.ireturn, 1) := by decide +kernel
theorem dX2_anyAtMost_0 : decode cX2_anyAtMost 0 = .ok (.iconst 0, 1) := by decide +kernel
theorem dX2_anyAtMost_1 : decode cX2_anyAtMost 1 = .ok (.istore 4, 2) := by decide +kernel
theorem dX2_anyAtMost_3 : decode cX2_anyAtMost 3 = .ok (.iload 4, 2) := by decide +kernel
theorem dX2_anyAtMost_5 : decode cX2_anyAtMost 5 = .ok (.aload_n 0, 1) := by decide +kernel
theorem dX2_anyAtMost_6 : decode cX2_anyAtMost 6 = .ok (.getfield 24, 3) := by decide +kernel
theorem dX2_anyAtMost_9 : decode cX2_anyAtMost 9 = .ok (.if_icmp .ge 33, 3) := by decide +kernel
theorem dX2_anyAtMost_12 : decode cX2_anyAtMost 12 = .ok (.aload_n 0, 1) := by decide +kernel
theorem dX2_anyAtMost_13 : decode cX2_anyAtMost 13 = .ok (.iload 4, 2) := by decide +kernel
theorem dX2_anyAtMost_15 : decode cX2_anyAtMost 15 = .ok (.iload_n 1, 1) := by decide +kernel
theorem dX2_anyAtMost_16 : decode cX2_anyAtMost 16 = .ok (.iload_n 2, 1) := by decide +kernel
theorem dX2_anyAtMost_17 : decode cX2_anyAtMost 17 = .ok (.invokevirtual 28, 3) := by decide +kernel
theorem dX2_anyAtMost_20 : decode cX2_anyAtMost 20 = .ok (.ifCond .eq 16, 3) := by decide +kernel
theorem dX2_anyAtMost_23 : decode cX2_anyAtMost 23 = .ok (.aload_n 0, 1) := by decide +kernel
theorem dX2_anyAtMost_24 : decode cX2_anyAtMost 24 = .ok (.getfield 15, 3) := by decide +kernel
theorem dX2_anyAtMost_27 : decode cX2_anyAtMost 27 = .ok (.iload 4, 2) := by decide +kernel
theorem dX2_anyAtMost_29 : decode cX2_anyAtMost 29 = .ok (.iaload, 1) := by decide +kernel
theorem dX2_anyAtMost_30 : decode cX2_anyAtMost 30 = .ok (.iload_n 3, 1) := by decide +kernel
theorem dX2_anyAtMost_31 : decode cX2_anyAtMost 31 = .ok (.if_icmp .gt 5, 3) := by decide +kernel
theorem dX2_anyAtMost_34 : decode cX2_anyAtMost 34 = .ok (.iconst 1, 1) := by decide +kernel
theorem dX2_anyAtMost_35 : decode cX2_anyAtMost 35 = .ok (.ireturn, 1) := by decide +kernel
theorem dX2_anyAtMost_36 : decode cX2_anyAtMost 36 = .ok (.iinc 4 1, 3) := by decide +kernel
theorem dX2_anyAtMost_39 : decode cX2_anyAtMost 39 = .ok (.goto (-36), 3) := by decide +kernel
theorem dX2_anyAtMost_42 : decode cX2_anyAtMost 42 = .ok (.iconst 0, 1) := by decide +kernel
theorem dX2_anyAtMost_43 : decode cX2_anyAtMost 43 = .ok (.ireturn, 1) := by decide +kernel
theorem dX2_anyAbove_0 : decode cX2_anyAbove 0 = .ok (.iconst 0, 1) := by decide +kernel
theorem dX2_anyAbove_1 : decode cX2_anyAbove 1 = .ok (.istore 4, 2) := by decide +kernel
theorem dX2_anyAbove_3 : decode cX2_anyAbove 3 = .ok (.iload 4, 2) := by decide +kernel
theorem dX2_anyAbove_5 : decode cX2_anyAbove 5 = .ok (.aload_n 0, 1) := by decide +kernel
theorem dX2_anyAbove_6 : decode cX2_anyAbove 6 = .ok (.getfield 24, 3) := by decide +kernel
theorem dX2_anyAbove_9 : decode cX2_anyAbove 9 = .ok (.if_icmp .ge 33, 3) := by decide +kernel
theorem dX2_anyAbove_12 : decode cX2_anyAbove 12 = .ok (.aload_n 0, 1) := by decide +kernel
theorem dX2_anyAbove_13 : decode cX2_anyAbove 13 = .ok (.iload 4, 2) := by decide +kernel
theorem dX2_anyAbove_15 : decode cX2_anyAbove 15 = .ok (.iload_n 1, 1) := by decide +kernel
theorem dX2_anyAbove_16 : decode cX2_anyAbove 16 = .ok (.iload_n 2, 1) := by decide +kernel
theorem dX2_anyAbove_17 : decode cX2_anyAbove 17 = .ok (.invokevirtual 28, 3) := by decide +kernel
theorem dX2_anyAbove_20 : decode cX2_anyAbove 20 = .ok (.ifCond .eq 16, 3) := by decide +kernel
theorem dX2_anyAbove_23 : decode cX2_anyAbove 23 = .ok (.aload_n 0, 1) := by decide +kernel
theorem dX2_anyAbove_24 : decode cX2_anyAbove 24 = .ok (.getfield 15, 3) := by decide +kernel
theorem dX2_anyAbove_27 : decode cX2_anyAbove 27 = .ok (.iload 4, 2) := by decide +kernel
theorem dX2_anyAbove_29 : decode cX2_anyAbove 29 = .ok (.iaload, 1) := by decide +kernel
theorem dX2_anyAbove_30 : decode cX2_anyAbove 30 = .ok (.iload_n 3, 1) := by decide +kernel
theorem dX2_anyAbove_31 : decode cX2_anyAbove 31 = .ok (.if_icmp .le 5, 3) := by decide +kernel
theorem dX2_anyAbove_34 : decode cX2_anyAbove 34 = .ok (.iconst 1, 1) := by decide +kernel
theorem dX2_anyAbove_35 : decode cX2_anyAbove 35 = .ok (.ireturn, 1) := by decide +kernel
theorem dX2_anyAbove_36 : decode cX2_anyAbove 36 = .ok (.iinc 4 1, 3) := by decide +kernel
theorem dX2_anyAbove_39 : decode cX2_anyAbove 39 = .ok (.goto (-36), 3) := by decide +kernel
theorem dX2_anyAbove_42 : decode cX2_anyAbove 42 = .ok (.iconst 0, 1) := by decide +kernel
theorem dX2_anyAbove_43 : decode cX2_anyAbove 43 = .ok (.ireturn, 1) := by decide +kernel
theorem dX2_become_0 : decode cX2_become 0 = .ok (.aload_n 0, 1) := by decide +kernel
theorem dX2_become_1 : decode cX2_become 1 = .ok (.aload_n 1, 1) := by decide +kernel
theorem dX2_become_2 : decode cX2_become 2 = .ok (.getfield 24, 3) := by decide +kernel
theorem dX2_become_5 : decode cX2_become 5 = .ok (.putfield 24, 3) := by decide +kernel
theorem dX2_become_8 : decode cX2_become 8 = .ok (.aload_n 1, 1) := by decide +kernel
theorem dX2_become_9 : decode cX2_become 9 = .ok (.getfield 9, 3) := by decide +kernel
theorem dX2_become_12 : decode cX2_become 12 = .ok (.aload_n 0, 1) := by decide +kernel
theorem dX2_become_13 : decode cX2_become 13 = .ok (.getfield 9, 3) := by decide +kernel
theorem dX2_become_16 : decode cX2_become 16 = .ok (.invokestatic 32, 3) := by decide +kernel
theorem dX2_become_19 : decode cX2_become 19 = .ok (.aload_n 1, 1) := by decide +kernel
theorem dX2_become_20 : decode cX2_become 20 = .ok (.getfield 15, 3) := by decide +kernel
theorem dX2_become_23 : decode cX2_become 23 = .ok (.aload_n 0, 1) := by decide +kernel
theorem dX2_become_24 : decode cX2_become 24 = .ok (.getfield 15, 3) := by decide +kernel
theorem dX2_become_27 : decode cX2_become 27 = .ok (.invokestatic 32, 3) := by decide +kernel
theorem dX2_become_30 : decode cX2_become 30 = .ok (.aload_n 1, 1) := by decide +kernel
theorem dX2_become_31 : decode cX2_become 31 = .ok (.getfield 18, 3) := by decide +kernel
theorem dX2_become_34 : decode cX2_become 34 = .ok (.aload_n 0, 1) := by decide +kernel
theorem dX2_become_35 : decode cX2_become 35 = .ok (.getfield 18, 3) := by decide +kernel
theorem dX2_become_38 : decode cX2_become 38 = .ok (.invokestatic 32, 3) := by decide +kernel
theorem dX2_become_41 : decode cX2_become 41 = .ok (.aload_n 1, 1) := by decide +kernel
theorem dX2_become_42 : decode cX2_become 42 = .ok (.getfield 21, 3) := by decide +kernel
theorem dX2_become_45 : decode cX2_become 45 = .ok (.aload_n 0, 1) := by decide +kernel
theorem dX2_become_46 : decode cX2_become 46 = .ok (.getfield 21, 3) := by decide +kernel
theorem dX2_become_49 : decode cX2_become 49 = .ok (.invokestatic 32, 3) := by decide +kernel
theorem dX2_become_52 : decode cX2_become 52 = .ok (.return_, 1) := by decide +kernel
theorem dX3_init_0 : decode cX3_init 0 = .ok (.aload_n 0, 1) := by decide +kernel
theorem dX3_init_1 : decode cX3_init 1 = .ok (.invokespecial 3, 3) := by decide +kernel
theorem dX3_init_4 : decode cX3_init 4 = .ok (.aload_n 0, 1) := by decide +kernel
theorem dX3_init_5 : decode cX3_init 5 = .ok (.bipush 20, 2) := by decide +kernel
theorem dX3_init_7 : decode cX3_init 7 = .ok (.newarray .int, 2) := by decide +kernel
theorem dX3_init_9 : decode cX3_init 9 = .ok (.putfield 9, 3) := by decide +kernel
theorem dX3_init_12 : decode cX3_init 12 = .ok (.aload_n 0, 1) := by decide +kernel
theorem dX3_init_13 : decode cX3_init 13 = .ok (.bipush 20, 2) := by decide +kernel
theorem dX3_init_15 : decode cX3_init 15 = .ok (.newarray .int, 2) := by decide +kernel
theorem dX3_init_17 : decode cX3_init 17 = .ok (.putfield 15, 3) := by decide +kernel
theorem dX3_init_20 : decode cX3_init 20 = .ok (.aload_n 0, 1) := by decide +kernel
theorem dX3_init_21 : decode cX3_init 21 = .ok (.bipush 20, 2) := by decide +kernel
theorem dX3_init_23 : decode cX3_init 23 = .ok (.newarray .int, 2) := by decide +kernel
theorem dX3_init_25 : decode cX3_init 25 = .ok (.putfield 18, 3) := by decide +kernel
theorem dX3_init_28 : decode cX3_init 28 = .ok (.aload_n 0, 1) := by decide +kernel
theorem dX3_init_29 : decode cX3_init 29 = .ok (.bipush 20, 2) := by decide +kernel
theorem dX3_init_31 : decode cX3_init 31 = .ok (.newarray .int, 2) := by decide +kernel
theorem dX3_init_33 : decode cX3_init 33 = .ok (.putfield 21, 3) := by decide +kernel
theorem dX3_init_36 : decode cX3_init 36 = .ok (.aload_n 0, 1) := by decide +kernel
theorem dX3_init_37 : decode cX3_init 37 = .ok (.bipush 20, 2) := by decide +kernel
theorem dX3_init_39 : decode cX3_init 39 = .ok (.newarray .int, 2) := by decide +kernel
theorem dX3_init_41 : decode cX3_init 41 = .ok (.putfield 24, 3) := by decide +kernel
theorem dX3_init_44 : decode cX3_init 44 = .ok (.aload_n 0, 1) := by decide +kernel
theorem dX3_init_45 : decode cX3_init 45 = .ok (.bipush 20, 2) := by decide +kernel
theorem dX3_init_47 : decode cX3_init 47 = .ok (.newarray .int, 2) := by decide +kernel
theorem dX3_init_49 : decode cX3_init 49 = .ok (.putfield 27, 3) := by decide +kernel
theorem dX3_init_52 : decode cX3_init 52 = .ok (.return_, 1) := by decide +kernel
theorem dX3_has_0 : decode cX3_has 0 = .ok (.iload_n 1, 1) := by decide +kernel
theorem dX3_has_1 : decode cX3_has 1 = .ok (.ifCond .lt 15, 3) := by decide +kernel
theorem dX3_has_4 : decode cX3_has 4 = .ok (.iload_n 1, 1) := by decide +kernel
theorem dX3_has_5 : decode cX3_has 5 = .ok (.aload_n 0, 1) := by decide +kernel
theorem dX3_has_6 : decode cX3_has 6 = .ok (.getfield 30, 3) := by decide +kernel
theorem dX3_has_9 : decode cX3_has 9 = .ok (.if_icmp .ge 7, 3) := by decide +kernel
theorem dX3_has_12 : decode cX3_has 12 = .ok (.iconst 1, 1) := by decide +kernel
theorem dX3_has_13 : decode cX3_has 13 = .ok (.goto 4, 3) := by decide +kernel
theorem dX3_has_16 : decode cX3_has 16 = .ok (.iconst 0, 1) := by decide +kernel
theorem dX3_has_17 : decode cX3_has 17 = .ok (.ireturn, 1) := by decide +kernel
theorem dX3_add_0 : decode cX3_add 0 = .ok (.aload_n 0, 1) := by decide +kernel
theorem dX3_add_1 : decode cX3_add 1 = .ok (.getfield 9, 3) := by decide +kernel
theorem dX3_add_4 : decode cX3_add 4 = .ok (.aload_n 0, 1) := by decide +kernel
theorem dX3_add_5 : decode cX3_add 5 = .ok (.getfield 30, 3) := by decide +kernel
theorem dX3_add_8 : decode cX3_add 8 = .ok (.iload_n 1, 1) := by decide +kernel
theorem dX3_add_9 : decode cX3_add 9 = .ok (.iastore, 1) := by decide +kernel
theorem dX3_add_10 : decode cX3_add 10 = .ok (.aload_n 0, 1) := by decide +kernel
theorem dX3_add_11 : decode cX3_add 11 = .ok (.getfield 15, 3) := by decide +kernel
theorem dX3_add_14 : decode cX3_add 14 = .ok (.aload_n 0, 1) := by decide +kernel
theorem dX3_add_15 : decode cX3_add 15 = .ok (.getfield 30, 3) := by decide +kernel
theorem dX3_add_18 : decode cX3_add 18 = .ok (.iload_n 2, 1) := by decide +kernel
theorem dX3_add_19 : decode cX3_add 19 = .ok (.iastore, 1) := by decide +kernel
theorem dX3_add_20 : decode cX3_add 20 = .ok (.aload_n 0, 1) := by decide +kernel
theorem dX3_add_21 : decode cX3_add 21 = .ok (.getfield 18, 3) := by decide +kernel
theorem dX3_add_24 : decode cX3_add 24 = .ok (.aload_n 0, 1) := by decide +kernel
theorem dX3_add_25 : decode cX3_add 25 = .ok (.getfield 30, 3) := by decide +kernel
theorem dX3_add_28 : decode cX3_add 28 = .ok (.iload_n 3, 1) := by decide +kernel
theorem dX3_add_29 : decode cX3_add 29 = .ok (.iastore, 1) := by decide +kernel
theorem dX3_add_30 : decode cX3_add 30 = .ok (.aload_n 0, 1) := by decide +kernel
theorem dX3_add_31 : decode cX3_add 31 = .ok (.getfield 21, 3) := by decide +kernel
theorem dX3_add_34 : decode cX3_add 34 = .ok (.aload_n 0, 1) := by decide +kernel
theorem dX3_add_35 : decode cX3_add 35 = .ok (.getfield 30, 3) := by decide +kernel
theorem dX3_add_38 : decode cX3_add 38 = .ok (.iload 4, 2) := by decide +kernel
theorem dX3_add_40 : decode cX3_add 40 = .ok (.iastore, 1) := by decide +kernel
theorem dX3_add_41 : decode cX3_add 41 = .ok (.aload_n 0, 1) := by decide +kernel
theorem dX3_add_42 : decode cX3_add 42 = .ok (.getfield 24, 3) := by decide +kernel
theorem dX3_add_45 : decode cX3_add 45 = .ok (.aload_n 0, 1) := by decide +kernel
theorem dX3_add_46 : decode cX3_add 46 = .ok (.getfield 30, 3) := by decide +kernel
theorem dX3_add_49 : decode cX3_add 49 = .ok (.iload 5, 2) := by decide +kernel
theorem dX3_add_51 : decode cX3_add 51 = .ok (.iastore, 1) := by decide +kernel
theorem dX3_add_52 : decode cX3_add 52 = .ok (.aload_n 0, 1) := by decide +kernel
theorem dX3_add_53 : decode cX3_add 53 = .ok (.getfield 27, 3) := by decide +kernel
theorem dX3_add_56 : decode cX3_add 56 = .ok (.aload_n 0, 1) := by decide +kernel
theorem dX3_add_57 : decode cX3_add 57 = .ok (.getfield 30, 3) := by decide +kernel
theorem dX3_add_60 : decode cX3_add 60 = .ok (.iconst 0, 1) := by decide +kernel
theorem dX3_add_61 : decode cX3_add 61 = .ok (.iastore, 1) := by decide +kernel
theorem dX3_add_62 : decode cX3_add 62 = .ok (.aload_n 0, 1) := by decide +kernel
theorem dX3_add_63 : decode cX3_add 63 = .ok (.dup, 1) := by decide +kernel
theorem dX3_add_64 : decode cX3_add 64 = .ok (.getfield 30, 3) := by decide +kernel
theorem dX3_add_67 : decode cX3_add 67 = .ok (.iconst 1, 1) := by decide +kernel
theorem dX3_add_68 : decode cX3_add 68 = .ok (.iadd, 1) := by decide +kernel
theorem dX3_add_69 : decode cX3_add 69 = .ok (.putfield 30, 3) := by decide +kernel
theorem dX3_add_72 : decode cX3_add 72 = .ok (.aload_n 0, 1) := by decide +kernel
theorem dX3_add_73 : decode cX3_add 73 = .ok (.getfield 30, 3) := by decide +kernel
theorem dX3_add_76 : decode cX3_add 76 = .ok (.iconst 1, 1) := by decide +kernel
theorem dX3_add_77 : decode cX3_add 77 = .ok (.isub, 1) := by decide +kernel
theorem dX3_add_78 : decode cX3_add 78 = .ok (.ireturn, 1) := by decide +kernel
theorem dX3_borneBy_0 : decode cX3_borneBy 0 = .ok (.iconst 0, 1) := by decide +kernel
theorem dX3_borneBy_1 : decode cX3_borneBy 1 = .ok (.istore_n 2, 1) := by decide +kernel
theorem dX3_borneBy_2 : decode cX3_borneBy 2 = .ok (.iconst 0, 1) := by decide +kernel
theorem dX3_borneBy_3 : decode cX3_borneBy 3 = .ok (.istore_n 3, 1) := by decide +kernel
theorem dX3_borneBy_4 : decode cX3_borneBy 4 = .ok (.iload_n 3, 1) := by decide +kernel
theorem dX3_borneBy_5 : decode cX3_borneBy 5 = .ok (.aload_n 0, 1) := by decide +kernel
theorem dX3_borneBy_6 : decode cX3_borneBy 6 = .ok (.getfield 30, 3) := by decide +kernel
theorem dX3_borneBy_9 : decode cX3_borneBy 9 = .ok (.if_icmp .ge 51, 3) := by decide +kernel
theorem dX3_borneBy_12 : decode cX3_borneBy 12 = .ok (.aload_n 0, 1) := by decide +kernel
theorem dX3_borneBy_13 : decode cX3_borneBy 13 = .ok (.getfield 27, 3) := by decide +kernel
theorem dX3_borneBy_16 : decode cX3_borneBy 16 = .ok (.iload_n 3, 1) := by decide +kernel
theorem dX3_borneBy_17 : decode cX3_borneBy 17 = .ok (.iaload, 1) := by decide +kernel
theorem dX3_borneBy_18 : decode cX3_borneBy 18 = .ok (.iconst 2, 1) := by decide +kernel
theorem dX3_borneBy_19 : decode cX3_borneBy 19 = .ok (.if_icmp .ne 12, 3) := by decide +kernel
theorem dX3_borneBy_22 : decode cX3_borneBy 22 = .ok (.aload_n 0, 1) := by decide +kernel
theorem dX3_borneBy_23 : decode cX3_borneBy 23 = .ok (.getfield 15, 3) := by decide +kernel
theorem dX3_borneBy_26 : decode cX3_borneBy 26 = .ok (.iload_n 3, 1) := by decide +kernel
theorem dX3_borneBy_27 : decode cX3_borneBy 27 = .ok (.iaload, 1) := by decide +kernel
theorem dX3_borneBy_28 : decode cX3_borneBy 28 = .ok (.goto 9, 3) := by decide +kernel
theorem dX3_borneBy_31 : decode cX3_borneBy 31 = .ok (.aload_n 0, 1) := by decide +kernel
theorem dX3_borneBy_32 : decode cX3_borneBy 32 = .ok (.getfield 18, 3) := by decide +kernel
theorem dX3_borneBy_35 : decode cX3_borneBy 35 = .ok (.iload_n 3, 1) := by decide +kernel
theorem dX3_borneBy_36 : decode cX3_borneBy 36 = .ok (.iaload, 1) := by decide +kernel
theorem dX3_borneBy_37 : decode cX3_borneBy 37 = .ok (.istore 4, 2) := by decide +kernel
theorem dX3_borneBy_39 : decode cX3_borneBy 39 = .ok (.iload 4, 2) := by decide +kernel
theorem dX3_borneBy_41 : decode cX3_borneBy 41 = .ok (.iload_n 1, 1) := by decide +kernel
theorem dX3_borneBy_42 : decode cX3_borneBy 42 = .ok (.if_icmp .ne 12, 3) := by decide +kernel
theorem dX3_borneBy_45 : decode cX3_borneBy 45 = .ok (.iload_n 2, 1) := by decide +kernel
theorem dX3_borneBy_46 : decode cX3_borneBy 46 = .ok (.aload_n 0, 1) := by decide +kernel
theorem dX3_borneBy_47 : decode cX3_borneBy 47 = .ok (.getfield 24, 3) := by decide +kernel
theorem dX3_borneBy_50 : decode cX3_borneBy 50 = .ok (.iload_n 3, 1) := by decide +kernel
theorem dX3_borneBy_51 : decode cX3_borneBy 51 = .ok (.iaload, 1) := by decide +kernel
theorem dX3_borneBy_52 : decode cX3_borneBy 52 = .ok (.iadd, 1) := by decide +kernel
theorem dX3_borneBy_53 : decode cX3_borneBy 53 = .ok (.istore_n 2, 1) := by decide +kernel
theorem dX3_borneBy_54 : decode cX3_borneBy 54 = .ok (.iinc 3 1, 3) := by decide +kernel
theorem dX3_borneBy_57 : decode cX3_borneBy 57 = .ok (.goto (-53), 3) := by decide +kernel
theorem dX3_borneBy_60 : decode cX3_borneBy 60 = .ok (.iload_n 2, 1) := by decide +kernel
theorem dX3_borneBy_61 : decode cX3_borneBy 61 = .ok (.ireturn, 1) := by decide +kernel
theorem dX3_become_0 : decode cX3_become 0 = .ok (.aload_n 0, 1) := by decide +kernel
theorem dX3_become_1 : decode cX3_become 1 = .ok (.aload_n 1, 1) := by decide +kernel
theorem dX3_become_2 : decode cX3_become 2 = .ok (.getfield 30, 3) := by decide +kernel
theorem dX3_become_5 : decode cX3_become 5 = .ok (.putfield 30, 3) := by decide +kernel
theorem dX3_become_8 : decode cX3_become 8 = .ok (.aload_n 1, 1) := by decide +kernel
theorem dX3_become_9 : decode cX3_become 9 = .ok (.getfield 9, 3) := by decide +kernel
theorem dX3_become_12 : decode cX3_become 12 = .ok (.aload_n 0, 1) := by decide +kernel
theorem dX3_become_13 : decode cX3_become 13 = .ok (.getfield 9, 3) := by decide +kernel
theorem dX3_become_16 : decode cX3_become 16 = .ok (.invokestatic 34, 3) := by decide +kernel
theorem dX3_become_19 : decode cX3_become 19 = .ok (.aload_n 1, 1) := by decide +kernel
theorem dX3_become_20 : decode cX3_become 20 = .ok (.getfield 15, 3) := by decide +kernel
theorem dX3_become_23 : decode cX3_become 23 = .ok (.aload_n 0, 1) := by decide +kernel
theorem dX3_become_24 : decode cX3_become 24 = .ok (.getfield 15, 3) := by decide +kernel
theorem dX3_become_27 : decode cX3_become 27 = .ok (.invokestatic 34, 3) := by decide +kernel
theorem dX3_become_30 : decode cX3_become 30 = .ok (.aload_n 1, 1) := by decide +kernel
theorem dX3_become_31 : decode cX3_become 31 = .ok (.getfield 18, 3) := by decide +kernel
theorem dX3_become_34 : decode cX3_become 34 = .ok (.aload_n 0, 1) := by decide +kernel
theorem dX3_become_35 : decode cX3_become 35 = .ok (.getfield 18, 3) := by decide +kernel
theorem dX3_become_38 : decode cX3_become 38 = .ok (.invokestatic 34, 3) := by decide +kernel
theorem dX3_become_41 : decode cX3_become 41 = .ok (.aload_n 1, 1) := by decide +kernel
theorem dX3_become_42 : decode cX3_become 42 = .ok (.getfield 21, 3) := by decide +kernel
theorem dX3_become_45 : decode cX3_become 45 = .ok (.aload_n 0, 1) := by decide +kernel
theorem dX3_become_46 : decode cX3_become 46 = .ok (.getfield 21, 3) := by decide +kernel
theorem dX3_become_49 : decode cX3_become 49 = .ok (.invokestatic 34, 3) := by decide +kernel
theorem dX3_become_52 : decode cX3_become 52 = .ok (.aload_n 1, 1) := by decide +kernel
theorem dX3_become_53 : decode cX3_become 53 = .ok (.getfield 24, 3) := by decide +kernel
theorem dX3_become_56 : decode cX3_become 56 = .ok (.aload_n 0, 1) := by decide +kernel
theorem dX3_become_57 : decode cX3_become 57 = .ok (.getfield 24, 3) := by decide +kernel
theorem dX3_become_60 : decode cX3_become 60 = .ok (.invokestatic 34, 3) := by decide +kernel
theorem dX3_become_63 : decode cX3_become 63 = .ok (.aload_n 1, 1) := by decide +kernel
theorem dX3_become_64 : decode cX3_become 64 = .ok (.getfield 27, 3) := by decide +kernel
theorem dX3_become_67 : decode cX3_become 67 = .ok (.aload_n 0, 1) := by decide +kernel
theorem dX3_become_68 : decode cX3_become 68 = .ok (.getfield 27, 3) := by decide +kernel
theorem dX3_become_71 : decode cX3_become 71 = .ok (.invokestatic 34, 3) := by decide +kernel
theorem dX3_become_74 : decode cX3_become 74 = .ok (.return_, 1) := by decide +kernel
theorem dX4_init_0 : decode cX4_init 0 = .ok (.aload_n 0, 1) := by decide +kernel
theorem dX4_init_1 : decode cX4_init 1 = .ok (.invokespecial 3, 3) := by decide +kernel
theorem dX4_init_4 : decode cX4_init 4 = .ok (.aload_n 0, 1) := by decide +kernel
theorem dX4_init_5 : decode cX4_init 5 = .ok (.bipush 6, 2) := by decide +kernel
theorem dX4_init_7 : decode cX4_init 7 = .ok (.newarray .int, 2) := by decide +kernel
theorem dX4_init_9 : decode cX4_init 9 = .ok (.putfield 9, 3) := by decide +kernel
theorem dX4_init_12 : decode cX4_init 12 = .ok (.aload_n 0, 1) := by decide +kernel
theorem dX4_init_13 : decode cX4_init 13 = .ok (.bipush 6, 2) := by decide +kernel
theorem dX4_init_15 : decode cX4_init 15 = .ok (.bipush 6, 2) := by decide +kernel
theorem dX4_init_17 : decode cX4_init 17 = .ok (.multianewarray 15 2, 4) := by decide +kernel
theorem dX4_init_21 : decode cX4_init 21 = .ok (.putfield 17, 3) := by decide +kernel
theorem dX4_init_24 : decode cX4_init 24 = .ok (.return_, 1) := by decide +kernel
theorem dX4_has_0 : decode cX4_has 0 = .ok (.iload_n 1, 1) := by decide +kernel
theorem dX4_has_1 : decode cX4_has 1 = .ok (.ifCond .lt 15, 3) := by decide +kernel
theorem dX4_has_4 : decode cX4_has 4 = .ok (.iload_n 1, 1) := by decide +kernel
theorem dX4_has_5 : decode cX4_has 5 = .ok (.aload_n 0, 1) := by decide +kernel
theorem dX4_has_6 : decode cX4_has 6 = .ok (.getfield 20, 3) := by decide +kernel
theorem dX4_has_9 : decode cX4_has 9 = .ok (.if_icmp .ge 7, 3) := by decide +kernel
theorem dX4_has_12 : decode cX4_has 12 = .ok (.iconst 1, 1) := by decide +kernel
theorem dX4_has_13 : decode cX4_has 13 = .ok (.goto 4, 3) := by decide +kernel
theorem dX4_has_16 : decode cX4_has 16 = .ok (.iconst 0, 1) := by decide +kernel
theorem dX4_has_17 : decode cX4_has 17 = .ok (.ireturn, 1) := by decide +kernel
theorem dX4_add_0 : decode cX4_add 0 = .ok (.aload_n 0, 1) := by decide +kernel
theorem dX4_add_1 : decode cX4_add 1 = .ok (.getfield 9, 3) := by decide +kernel
theorem dX4_add_4 : decode cX4_add 4 = .ok (.aload_n 0, 1) := by decide +kernel
theorem dX4_add_5 : decode cX4_add 5 = .ok (.getfield 20, 3) := by decide +kernel
theorem dX4_add_8 : decode cX4_add 8 = .ok (.iload_n 1, 1) := by decide +kernel
theorem dX4_add_9 : decode cX4_add 9 = .ok (.iastore, 1) := by decide +kernel
theorem dX4_add_10 : decode cX4_add 10 = .ok (.aload_n 0, 1) := by decide +kernel
theorem dX4_add_11 : decode cX4_add 11 = .ok (.dup, 1) := by decide +kernel
theorem dX4_add_12 : decode cX4_add 12 = .ok (.getfield 20, 3) := by decide +kernel
theorem dX4_add_15 : decode cX4_add 15 = .ok (.iconst 1, 1) := by decide +kernel
theorem dX4_add_16 : decode cX4_add 16 = .ok (.iadd, 1) := by decide +kernel
theorem dX4_add_17 : decode cX4_add 17 = .ok (.putfield 20, 3) := by decide +kernel
theorem dX4_add_20 : decode cX4_add 20 = .ok (.aload_n 0, 1) := by decide +kernel
theorem dX4_add_21 : decode cX4_add 21 = .ok (.getfield 20, 3) := by decide +kernel
theorem dX4_add_24 : decode cX4_add 24 = .ok (.iconst 1, 1) := by decide +kernel
theorem dX4_add_25 : decode cX4_add 25 = .ok (.isub, 1) := by decide +kernel
theorem dX4_add_26 : decode cX4_add 26 = .ok (.ireturn, 1) := by decide +kernel
theorem dX4_allWorth_0 : decode cX4_allWorth 0 = .ok (.iconst 0, 1) := by decide +kernel
theorem dX4_allWorth_1 : decode cX4_allWorth 1 = .ok (.istore_n 1, 1) := by decide +kernel
theorem dX4_allWorth_2 : decode cX4_allWorth 2 = .ok (.iconst 0, 1) := by decide +kernel
theorem dX4_allWorth_3 : decode cX4_allWorth 3 = .ok (.istore_n 2, 1) := by decide +kernel
theorem dX4_allWorth_4 : decode cX4_allWorth 4 = .ok (.iload_n 2, 1) := by decide +kernel
theorem dX4_allWorth_5 : decode cX4_allWorth 5 = .ok (.aload_n 0, 1) := by decide +kernel
theorem dX4_allWorth_6 : decode cX4_allWorth 6 = .ok (.getfield 20, 3) := by decide +kernel
theorem dX4_allWorth_9 : decode cX4_allWorth 9 = .ok (.if_icmp .ge 18, 3) := by decide +kernel
theorem dX4_allWorth_12 : decode cX4_allWorth 12 = .ok (.iload_n 1, 1) := by decide +kernel
theorem dX4_allWorth_13 : decode cX4_allWorth 13 = .ok (.aload_n 0, 1) := by decide +kernel
theorem dX4_allWorth_14 : decode cX4_allWorth 14 = .ok (.getfield 9, 3) := by decide +kernel
theorem dX4_allWorth_17 : decode cX4_allWorth 17 = .ok (.iload_n 2, 1) := by decide +kernel
theorem dX4_allWorth_18 : decode cX4_allWorth 18 = .ok (.iaload, 1) := by decide +kernel
theorem dX4_allWorth_19 : decode cX4_allWorth 19 = .ok (.iadd, 1) := by decide +kernel
theorem dX4_allWorth_20 : decode cX4_allWorth 20 = .ok (.istore_n 1, 1) := by decide +kernel
theorem dX4_allWorth_21 : decode cX4_allWorth 21 = .ok (.iinc 2 1, 3) := by decide +kernel
theorem dX4_allWorth_24 : decode cX4_allWorth 24 = .ok (.goto (-20), 3) := by decide +kernel
theorem dX4_allWorth_27 : decode cX4_allWorth 27 = .ok (.iload_n 1, 1) := by decide +kernel
theorem dX4_allWorth_28 : decode cX4_allWorth 28 = .ok (.ireturn, 1) := by decide +kernel
theorem dX4_share_0 : decode cX4_share 0 = .ok (.iload_n 3, 1) := by decide +kernel
theorem dX4_share_1 : decode cX4_share 1 = .ok (.ifCond .gt 5, 3) := by decide +kernel
theorem dX4_share_4 : decode cX4_share 4 = .ok (.iconst 0, 1) := by decide +kernel
theorem dX4_share_5 : decode cX4_share 5 = .ok (.ireturn, 1) := by decide +kernel
theorem dX4_share_6 : decode cX4_share 6 = .ok (.iload_n 2, 1) := by decide +kernel
theorem dX4_share_7 : decode cX4_share 7 = .ok (.istore 4, 2) := by decide +kernel
theorem dX4_share_9 : decode cX4_share 9 = .ok (.iconst 0, 1) := by decide +kernel
theorem dX4_share_10 : decode cX4_share 10 = .ok (.istore 5, 2) := by decide +kernel
theorem dX4_share_12 : decode cX4_share 12 = .ok (.aload_n 0, 1) := by decide +kernel
theorem dX4_share_13 : decode cX4_share 13 = .ok (.getfield 9, 3) := by decide +kernel
theorem dX4_share_16 : decode cX4_share 16 = .ok (.iload_n 1, 1) := by decide +kernel
theorem dX4_share_17 : decode cX4_share 17 = .ok (.iaload, 1) := by decide +kernel
theorem dX4_share_18 : decode cX4_share 18 = .ok (.iload_n 2, 1) := by decide +kernel
theorem dX4_share_19 : decode cX4_share 19 = .ok (.imul, 1) := by decide +kernel
theorem dX4_share_20 : decode cX4_share 20 = .ok (.iload_n 3, 1) := by decide +kernel
theorem dX4_share_21 : decode cX4_share 21 = .ok (.irem, 1) := by decide +kernel
theorem dX4_share_22 : decode cX4_share 22 = .ok (.istore 6, 2) := by decide +kernel
theorem dX4_share_24 : decode cX4_share 24 = .ok (.iconst 0, 1) := by decide +kernel
theorem dX4_share_25 : decode cX4_share 25 = .ok (.istore 7, 2) := by decide +kernel
theorem dX4_share_27 : decode cX4_share 27 = .ok (.iload 7, 2) := by decide +kernel
theorem dX4_share_29 : decode cX4_share 29 = .ok (.aload_n 0, 1) := by decide +kernel
theorem dX4_share_30 : decode cX4_share 30 = .ok (.getfield 20, 3) := by decide +kernel
theorem dX4_share_33 : decode cX4_share 33 = .ok (.if_icmp .ge 61, 3) := by decide +kernel
theorem dX4_share_36 : decode cX4_share 36 = .ok (.iload 4, 2) := by decide +kernel
theorem dX4_share_38 : decode cX4_share 38 = .ok (.aload_n 0, 1) := by decide +kernel
theorem dX4_share_39 : decode cX4_share 39 = .ok (.getfield 9, 3) := by decide +kernel
theorem dX4_share_42 : decode cX4_share 42 = .ok (.iload 7, 2) := by decide +kernel
theorem dX4_share_44 : decode cX4_share 44 = .ok (.iaload, 1) := by decide +kernel
theorem dX4_share_45 : decode cX4_share 45 = .ok (.iload_n 2, 1) := by decide +kernel
theorem dX4_share_46 : decode cX4_share 46 = .ok (.imul, 1) := by decide +kernel
theorem dX4_share_47 : decode cX4_share 47 = .ok (.iload_n 3, 1) := by decide +kernel
theorem dX4_share_48 : decode cX4_share 48 = .ok (.idiv, 1) := by decide +kernel
theorem dX4_share_49 : decode cX4_share 49 = .ok (.isub, 1) := by decide +kernel
theorem dX4_share_50 : decode cX4_share 50 = .ok (.istore 4, 2) := by decide +kernel
theorem dX4_share_52 : decode cX4_share 52 = .ok (.aload_n 0, 1) := by decide +kernel
theorem dX4_share_53 : decode cX4_share 53 = .ok (.getfield 9, 3) := by decide +kernel
theorem dX4_share_56 : decode cX4_share 56 = .ok (.iload 7, 2) := by decide +kernel
theorem dX4_share_58 : decode cX4_share 58 = .ok (.iaload, 1) := by decide +kernel
theorem dX4_share_59 : decode cX4_share 59 = .ok (.iload_n 2, 1) := by decide +kernel
theorem dX4_share_60 : decode cX4_share 60 = .ok (.imul, 1) := by decide +kernel
theorem dX4_share_61 : decode cX4_share 61 = .ok (.iload_n 3, 1) := by decide +kernel
theorem dX4_share_62 : decode cX4_share 62 = .ok (.irem, 1) := by decide +kernel
theorem dX4_share_63 : decode cX4_share 63 = .ok (.istore 8, 2) := by decide +kernel
theorem dX4_share_65 : decode cX4_share 65 = .ok (.iload 8, 2) := by decide +kernel
theorem dX4_share_67 : decode cX4_share 67 = .ok (.iload 6, 2) := by decide +kernel
theorem dX4_share_69 : decode cX4_share 69 = .ok (.if_icmp .gt 16, 3) := by decide +kernel
theorem dX4_share_72 : decode cX4_share 72 = .ok (.iload 8, 2) := by decide +kernel
theorem dX4_share_74 : decode cX4_share 74 = .ok (.iload 6, 2) := by decide +kernel
theorem dX4_share_76 : decode cX4_share 76 = .ok (.if_icmp .ne 12, 3) := by decide +kernel
theorem dX4_share_79 : decode cX4_share 79 = .ok (.iload 7, 2) := by decide +kernel
theorem dX4_share_81 : decode cX4_share 81 = .ok (.iload_n 1, 1) := by decide +kernel
theorem dX4_share_82 : decode cX4_share 82 = .ok (.if_icmp .ge 6, 3) := by decide +kernel
theorem dX4_share_85 : decode cX4_share 85 = .ok (.iinc 5 1, 3) := by decide +kernel
theorem dX4_share_88 : decode cX4_share 88 = .ok (.iinc 7 1, 3) := by decide +kernel
theorem dX4_share_91 : decode cX4_share 91 = .ok (.goto (-64), 3) := by decide +kernel
theorem dX4_share_94 : decode cX4_share 94 = .ok (.aload_n 0, 1) := by decide +kernel
theorem dX4_share_95 : decode cX4_share 95 = .ok (.getfield 9, 3) := by decide +kernel
theorem dX4_share_98 : decode cX4_share 98 = .ok (.iload_n 1, 1) := by decide +kernel
theorem dX4_share_99 : decode cX4_share 99 = .ok (.iaload, 1) := by decide +kernel
theorem dX4_share_100 : decode cX4_share 100 = .ok (.iload_n 2, 1) := by decide +kernel
theorem dX4_share_101 : decode cX4_share 101 = .ok (.imul, 1) := by decide +kernel
theorem dX4_share_102 : decode cX4_share 102 = .ok (.iload_n 3, 1) := by decide +kernel
theorem dX4_share_103 : decode cX4_share 103 = .ok (.idiv, 1) := by decide +kernel
theorem dX4_share_104 : decode cX4_share 104 = .ok (.iload 5, 2) := by decide +kernel
theorem dX4_share_106 : decode cX4_share 106 = .ok (.iload 4, 2) := by decide +kernel
theorem dX4_share_108 : decode cX4_share 108 = .ok (.if_icmp .ge 7, 3) := by decide +kernel
theorem dX4_share_111 : decode cX4_share 111 = .ok (.iconst 1, 1) := by decide +kernel
theorem dX4_share_112 : decode cX4_share 112 = .ok (.goto 4, 3) := by decide +kernel
theorem dX4_share_115 : decode cX4_share 115 = .ok (.iconst 0, 1) := by decide +kernel
theorem dX4_share_116 : decode cX4_share 116 = .ok (.iadd, 1) := by decide +kernel
theorem dX4_share_117 : decode cX4_share 117 = .ok (.ireturn, 1) := by decide +kernel
theorem dX4_become_0 : decode cX4_become 0 = .ok (.aload_n 0, 1) := by decide +kernel
theorem dX4_become_1 : decode cX4_become 1 = .ok (.aload_n 1, 1) := by decide +kernel
theorem dX4_become_2 : decode cX4_become 2 = .ok (.getfield 20, 3) := by decide +kernel
theorem dX4_become_5 : decode cX4_become 5 = .ok (.putfield 20, 3) := by decide +kernel
theorem dX4_become_8 : decode cX4_become 8 = .ok (.aload_n 1, 1) := by decide +kernel
theorem dX4_become_9 : decode cX4_become 9 = .ok (.getfield 9, 3) := by decide +kernel
theorem dX4_become_12 : decode cX4_become 12 = .ok (.aload_n 0, 1) := by decide +kernel
theorem dX4_become_13 : decode cX4_become 13 = .ok (.getfield 9, 3) := by decide +kernel
theorem dX4_become_16 : decode cX4_become 16 = .ok (.invokestatic 24, 3) := by decide +kernel
theorem dX4_become_19 : decode cX4_become 19 = .ok (.iconst 0, 1) := by decide +kernel
theorem dX4_become_20 : decode cX4_become 20 = .ok (.istore_n 2, 1) := by decide +kernel
theorem dX4_become_21 : decode cX4_become 21 = .ok (.iload_n 2, 1) := by decide +kernel
theorem dX4_become_22 : decode cX4_become 22 = .ok (.bipush 6, 2) := by decide +kernel
theorem dX4_become_24 : decode cX4_become 24 = .ok (.if_icmp .ge 24, 3) := by decide +kernel
theorem dX4_become_27 : decode cX4_become 27 = .ok (.aload_n 1, 1) := by decide +kernel
theorem dX4_become_28 : decode cX4_become 28 = .ok (.getfield 17, 3) := by decide +kernel
theorem dX4_become_31 : decode cX4_become 31 = .ok (.iload_n 2, 1) := by decide +kernel
theorem dX4_become_32 : decode cX4_become 32 = .ok (.aaload, 1) := by decide +kernel
theorem dX4_become_33 : decode cX4_become 33 = .ok (.aload_n 0, 1) := by decide +kernel
theorem dX4_become_34 : decode cX4_become 34 = .ok (.getfield 17, 3) := by decide +kernel
theorem dX4_become_37 : decode cX4_become 37 = .ok (.iload_n 2, 1) := by decide +kernel
theorem dX4_become_38 : decode cX4_become 38 = .ok (.aaload, 1) := by decide +kernel
theorem dX4_become_39 : decode cX4_become 39 = .ok (.invokestatic 24, 3) := by decide +kernel
theorem dX4_become_42 : decode cX4_become 42 = .ok (.iinc 2 1, 3) := by decide +kernel
theorem dX4_become_45 : decode cX4_become 45 = .ok (.goto (-24), 3) := by decide +kernel
theorem dX4_become_48 : decode cX4_become 48 = .ok (.return_, 1) := by decide +kernel
theorem dX5_init_0 : decode cX5_init 0 = .ok (.aload_n 0, 1) := by decide +kernel
theorem dX5_init_1 : decode cX5_init 1 = .ok (.invokespecial 3, 3) := by decide +kernel
theorem dX5_init_4 : decode cX5_init 4 = .ok (.aload_n 0, 1) := by decide +kernel
theorem dX5_init_5 : decode cX5_init 5 = .ok (.bipush 10, 2) := by decide +kernel
theorem dX5_init_7 : decode cX5_init 7 = .ok (.newarray .int, 2) := by decide +kernel
theorem dX5_init_9 : decode cX5_init 9 = .ok (.putfield 9, 3) := by decide +kernel
theorem dX5_init_12 : decode cX5_init 12 = .ok (.aload_n 0, 1) := by decide +kernel
theorem dX5_init_13 : decode cX5_init 13 = .ok (.bipush 10, 2) := by decide +kernel
theorem dX5_init_15 : decode cX5_init 15 = .ok (.newarray .int, 2) := by decide +kernel
theorem dX5_init_17 : decode cX5_init 17 = .ok (.putfield 15, 3) := by decide +kernel
theorem dX5_init_20 : decode cX5_init 20 = .ok (.aload_n 0, 1) := by decide +kernel
theorem dX5_init_21 : decode cX5_init 21 = .ok (.bipush 10, 2) := by decide +kernel
theorem dX5_init_23 : decode cX5_init 23 = .ok (.newarray .int, 2) := by decide +kernel
theorem dX5_init_25 : decode cX5_init 25 = .ok (.putfield 18, 3) := by decide +kernel
theorem dX5_init_28 : decode cX5_init 28 = .ok (.aload_n 0, 1) := by decide +kernel
theorem dX5_init_29 : decode cX5_init 29 = .ok (.bipush 10, 2) := by decide +kernel
theorem dX5_init_31 : decode cX5_init 31 = .ok (.newarray .int, 2) := by decide +kernel
theorem dX5_init_33 : decode cX5_init 33 = .ok (.putfield 21, 3) := by decide +kernel
theorem dX5_init_36 : decode cX5_init 36 = .ok (.aload_n 0, 1) := by decide +kernel
theorem dX5_init_37 : decode cX5_init 37 = .ok (.bipush 10, 2) := by decide +kernel
theorem dX5_init_39 : decode cX5_init 39 = .ok (.newarray .int, 2) := by decide +kernel
theorem dX5_init_41 : decode cX5_init 41 = .ok (.putfield 24, 3) := by decide +kernel
theorem dX5_init_44 : decode cX5_init 44 = .ok (.return_, 1) := by decide +kernel
theorem dX5_has_0 : decode cX5_has 0 = .ok (.iload_n 1, 1) := by decide +kernel
theorem dX5_has_1 : decode cX5_has 1 = .ok (.ifCond .lt 15, 3) := by decide +kernel
theorem dX5_has_4 : decode cX5_has 4 = .ok (.iload_n 1, 1) := by decide +kernel
theorem dX5_has_5 : decode cX5_has 5 = .ok (.aload_n 0, 1) := by decide +kernel
theorem dX5_has_6 : decode cX5_has 6 = .ok (.getfield 27, 3) := by decide +kernel
theorem dX5_has_9 : decode cX5_has 9 = .ok (.if_icmp .ge 7, 3) := by decide +kernel
theorem dX5_has_12 : decode cX5_has 12 = .ok (.iconst 1, 1) := by decide +kernel
theorem dX5_has_13 : decode cX5_has 13 = .ok (.goto 4, 3) := by decide +kernel
theorem dX5_has_16 : decode cX5_has 16 = .ok (.iconst 0, 1) := by decide +kernel
theorem dX5_has_17 : decode cX5_has 17 = .ok (.ireturn, 1) := by decide +kernel
theorem dX5_add_0 : decode cX5_add 0 = .ok (.aload_n 0, 1) := by decide +kernel
theorem dX5_add_1 : decode cX5_add 1 = .ok (.getfield 9, 3) := by decide +kernel
theorem dX5_add_4 : decode cX5_add 4 = .ok (.aload_n 0, 1) := by decide +kernel
theorem dX5_add_5 : decode cX5_add 5 = .ok (.getfield 27, 3) := by decide +kernel
theorem dX5_add_8 : decode cX5_add 8 = .ok (.iload_n 1, 1) := by decide +kernel
theorem dX5_add_9 : decode cX5_add 9 = .ok (.iastore, 1) := by decide +kernel
theorem dX5_add_10 : decode cX5_add 10 = .ok (.aload_n 0, 1) := by decide +kernel
theorem dX5_add_11 : decode cX5_add 11 = .ok (.getfield 15, 3) := by decide +kernel
theorem dX5_add_14 : decode cX5_add 14 = .ok (.aload_n 0, 1) := by decide +kernel
theorem dX5_add_15 : decode cX5_add 15 = .ok (.getfield 27, 3) := by decide +kernel
theorem dX5_add_18 : decode cX5_add 18 = .ok (.iload_n 2, 1) := by decide +kernel
theorem dX5_add_19 : decode cX5_add 19 = .ok (.iastore, 1) := by decide +kernel
theorem dX5_add_20 : decode cX5_add 20 = .ok (.aload_n 0, 1) := by decide +kernel
theorem dX5_add_21 : decode cX5_add 21 = .ok (.getfield 18, 3) := by decide +kernel
theorem dX5_add_24 : decode cX5_add 24 = .ok (.aload_n 0, 1) := by decide +kernel
theorem dX5_add_25 : decode cX5_add 25 = .ok (.getfield 27, 3) := by decide +kernel
theorem dX5_add_28 : decode cX5_add 28 = .ok (.iload_n 3, 1) := by decide +kernel
theorem dX5_add_29 : decode cX5_add 29 = .ok (.iastore, 1) := by decide +kernel
theorem dX5_add_30 : decode cX5_add 30 = .ok (.aload_n 0, 1) := by decide +kernel
theorem dX5_add_31 : decode cX5_add 31 = .ok (.getfield 21, 3) := by decide +kernel
theorem dX5_add_34 : decode cX5_add 34 = .ok (.aload_n 0, 1) := by decide +kernel
theorem dX5_add_35 : decode cX5_add 35 = .ok (.getfield 27, 3) := by decide +kernel
theorem dX5_add_38 : decode cX5_add 38 = .ok (.iconst (-1), 1) := by decide +kernel
theorem dX5_add_39 : decode cX5_add 39 = .ok (.iastore, 1) := by decide +kernel
theorem dX5_add_40 : decode cX5_add 40 = .ok (.aload_n 0, 1) := by decide +kernel
theorem dX5_add_41 : decode cX5_add 41 = .ok (.getfield 24, 3) := by decide +kernel
theorem dX5_add_44 : decode cX5_add 44 = .ok (.aload_n 0, 1) := by decide +kernel
theorem dX5_add_45 : decode cX5_add 45 = .ok (.getfield 27, 3) := by decide +kernel
theorem dX5_add_48 : decode cX5_add 48 = .ok (.iconst 0, 1) := by decide +kernel
theorem dX5_add_49 : decode cX5_add 49 = .ok (.iastore, 1) := by decide +kernel
theorem dX5_add_50 : decode cX5_add 50 = .ok (.aload_n 0, 1) := by decide +kernel
theorem dX5_add_51 : decode cX5_add 51 = .ok (.dup, 1) := by decide +kernel
theorem dX5_add_52 : decode cX5_add 52 = .ok (.getfield 27, 3) := by decide +kernel
theorem dX5_add_55 : decode cX5_add 55 = .ok (.iconst 1, 1) := by decide +kernel
theorem dX5_add_56 : decode cX5_add 56 = .ok (.iadd, 1) := by decide +kernel
theorem dX5_add_57 : decode cX5_add 57 = .ok (.putfield 27, 3) := by decide +kernel
theorem dX5_add_60 : decode cX5_add 60 = .ok (.aload_n 0, 1) := by decide +kernel
theorem dX5_add_61 : decode cX5_add 61 = .ok (.getfield 27, 3) := by decide +kernel
theorem dX5_add_64 : decode cX5_add 64 = .ok (.iconst 1, 1) := by decide +kernel
theorem dX5_add_65 : decode cX5_add 65 = .ok (.isub, 1) := by decide +kernel
theorem dX5_add_66 : decode cX5_add 66 = .ok (.ireturn, 1) := by decide +kernel
theorem dX5_isOf_0 : decode cX5_isOf 0 = .ok (.aload_n 0, 1) := by decide +kernel
theorem dX5_isOf_1 : decode cX5_isOf 1 = .ok (.getfield 9, 3) := by decide +kernel
theorem dX5_isOf_4 : decode cX5_isOf 4 = .ok (.iload_n 1, 1) := by decide +kernel
theorem dX5_isOf_5 : decode cX5_isOf 5 = .ok (.iaload, 1) := by decide +kernel
theorem dX5_isOf_6 : decode cX5_isOf 6 = .ok (.istore_n 3, 1) := by decide +kernel
theorem dX5_isOf_7 : decode cX5_isOf 7 = .ok (.iconst 0, 1) := by decide +kernel
theorem dX5_isOf_8 : decode cX5_isOf 8 = .ok (.istore 4, 2) := by decide +kernel
theorem dX5_isOf_10 : decode cX5_isOf 10 = .ok (.iload 4, 2) := by decide +kernel
theorem dX5_isOf_12 : decode cX5_isOf 12 = .ok (.getstatic 31, 3) := by decide +kernel
theorem dX5_isOf_15 : decode cX5_isOf 15 = .ok (.arraylength, 1) := by decide +kernel
theorem dX5_isOf_16 : decode cX5_isOf 16 = .ok (.if_icmp .ge 26, 3) := by decide +kernel
theorem dX5_isOf_19 : decode cX5_isOf 19 = .ok (.iload_n 3, 1) := by decide +kernel
theorem dX5_isOf_20 : decode cX5_isOf 20 = .ok (.ifCond .lt 22, 3) := by decide +kernel
theorem dX5_isOf_23 : decode cX5_isOf 23 = .ok (.iload_n 3, 1) := by decide +kernel
theorem dX5_isOf_24 : decode cX5_isOf 24 = .ok (.iload_n 2, 1) := by decide +kernel
theorem dX5_isOf_25 : decode cX5_isOf 25 = .ok (.if_icmp .ne 5, 3) := by decide +kernel
theorem dX5_isOf_28 : decode cX5_isOf 28 = .ok (.iconst 1, 1) := by decide +kernel
theorem dX5_isOf_29 : decode cX5_isOf 29 = .ok (.ireturn, 1) := by decide +kernel
theorem dX5_isOf_30 : decode cX5_isOf 30 = .ok (.getstatic 31, 3) := by decide +kernel
theorem dX5_isOf_33 : decode cX5_isOf 33 = .ok (.iload_n 3, 1) := by decide +kernel
theorem dX5_isOf_34 : decode cX5_isOf 34 = .ok (.iaload, 1) := by decide +kernel
theorem dX5_isOf_35 : decode cX5_isOf 35 = .ok (.istore_n 3, 1) := by decide +kernel
theorem dX5_isOf_36 : decode cX5_isOf 36 = .ok (.iinc 4 1, 3) := by decide +kernel
theorem dX5_isOf_39 : decode cX5_isOf 39 = .ok (.goto (-29), 3) := by decide +kernel
theorem dX5_isOf_42 : decode cX5_isOf 42 = .ok (.iconst 0, 1) := by decide +kernel
theorem dX5_isOf_43 : decode cX5_isOf 43 = .ok (.ireturn, 1) := by decide +kernel
theorem dX5_comesTo_0 : decode cX5_comesTo 0 = .ok (.iload_n 1, 1) := by decide +kernel
theorem dX5_comesTo_1 : decode cX5_comesTo 1 = .ok (.istore_n 3, 1) := by decide +kernel
theorem dX5_comesTo_2 : decode cX5_comesTo 2 = .ok (.iconst 0, 1) := by decide +kernel
theorem dX5_comesTo_3 : decode cX5_comesTo 3 = .ok (.istore 4, 2) := by decide +kernel
theorem dX5_comesTo_5 : decode cX5_comesTo 5 = .ok (.iload 4, 2) := by decide +kernel
theorem dX5_comesTo_7 : decode cX5_comesTo 7 = .ok (.bipush 10, 2) := by decide +kernel
theorem dX5_comesTo_9 : decode cX5_comesTo 9 = .ok (.if_icmp .ge 31, 3) := by decide +kernel
theorem dX5_comesTo_12 : decode cX5_comesTo 12 = .ok (.aload_n 0, 1) := by decide +kernel
theorem dX5_comesTo_13 : decode cX5_comesTo 13 = .ok (.iload_n 3, 1) := by decide +kernel
theorem dX5_comesTo_14 : decode cX5_comesTo 14 = .ok (.invokevirtual 34, 3) := by decide +kernel
theorem dX5_comesTo_17 : decode cX5_comesTo 17 = .ok (.ifCond .eq 23, 3) := by decide +kernel
theorem dX5_comesTo_20 : decode cX5_comesTo 20 = .ok (.iload_n 3, 1) := by decide +kernel
theorem dX5_comesTo_21 : decode cX5_comesTo 21 = .ok (.iload_n 2, 1) := by decide +kernel
theorem dX5_comesTo_22 : decode cX5_comesTo 22 = .ok (.if_icmp .ne 5, 3) := by decide +kernel
theorem dX5_comesTo_25 : decode cX5_comesTo 25 = .ok (.iconst 1, 1) := by decide +kernel
theorem dX5_comesTo_26 : decode cX5_comesTo 26 = .ok (.ireturn, 1) := by decide +kernel
theorem dX5_comesTo_27 : decode cX5_comesTo 27 = .ok (.aload_n 0, 1) := by decide +kernel
theorem dX5_comesTo_28 : decode cX5_comesTo 28 = .ok (.getfield 21, 3) := by decide +kernel
theorem dX5_comesTo_31 : decode cX5_comesTo 31 = .ok (.iload_n 3, 1) := by decide +kernel
theorem dX5_comesTo_32 : decode cX5_comesTo 32 = .ok (.iaload, 1) := by decide +kernel
theorem dX5_comesTo_33 : decode cX5_comesTo 33 = .ok (.istore_n 3, 1) := by decide +kernel
theorem dX5_comesTo_34 : decode cX5_comesTo 34 = .ok (.iinc 4 1, 3) := by decide +kernel
theorem dX5_comesTo_37 : decode cX5_comesTo 37 = .ok (.goto (-32), 3) := by decide +kernel
theorem dX5_comesTo_40 : decode cX5_comesTo 40 = .ok (.iconst 0, 1) := by decide +kernel
theorem dX5_comesTo_41 : decode cX5_comesTo 41 = .ok (.ireturn, 1) := by decide +kernel
theorem dX5_follow_0 : decode cX5_follow 0 = .ok (.aload_n 0, 1) := by decide +kernel
theorem dX5_follow_1 : decode cX5_follow 1 = .ok (.getfield 21, 3) := by decide +kernel
theorem dX5_follow_4 : decode cX5_follow 4 = .ok (.iload_n 1, 1) := by decide +kernel
theorem dX5_follow_5 : decode cX5_follow 5 = .ok (.iaload, 1) := by decide +kernel
theorem dX5_follow_6 : decode cX5_follow 6 = .ok (.istore 4, 2) := by decide +kernel
theorem dX5_follow_8 : decode cX5_follow 8 = .ok (.aload_n 0, 1) := by decide +kernel
theorem dX5_follow_9 : decode cX5_follow 9 = .ok (.getfield 21, 3) := by decide +kernel
theorem dX5_follow_12 : decode cX5_follow 12 = .ok (.iload_n 1, 1) := by decide +kernel
theorem dX5_follow_13 : decode cX5_follow 13 = .ok (.iload_n 2, 1) := by decide +kernel
theorem dX5_follow_14 : decode cX5_follow 14 = .ok (.iastore, 1) := by decide +kernel
theorem dX5_follow_15 : decode cX5_follow 15 = .ok (.aload_n 0, 1) := by decide +kernel
theorem dX5_follow_16 : decode cX5_follow 16 = .ok (.getfield 24, 3) := by decide +kernel
theorem dX5_follow_19 : decode cX5_follow 19 = .ok (.iload_n 1, 1) := by decide +kernel
theorem dX5_follow_20 : decode cX5_follow 20 = .ok (.iload_n 3, 1) := by decide +kernel
theorem dX5_follow_21 : decode cX5_follow 21 = .ok (.iastore, 1) := by decide +kernel
theorem dX5_follow_22 : decode cX5_follow 22 = .ok (.iload 4, 2) := by decide +kernel
theorem dX5_follow_24 : decode cX5_follow 24 = .ok (.ireturn, 1) := by decide +kernel
theorem dX5_isWifeOf_0 : decode cX5_isWifeOf 0 = .ok (.aload_n 0, 1) := by decide +kernel
theorem dX5_isWifeOf_1 : decode cX5_isWifeOf 1 = .ok (.getfield 9, 3) := by decide +kernel
theorem dX5_isWifeOf_4 : decode cX5_isWifeOf 4 = .ok (.iload_n 1, 1) := by decide +kernel
theorem dX5_isWifeOf_5 : decode cX5_isWifeOf 5 = .ok (.iaload, 1) := by decide +kernel
theorem dX5_isWifeOf_6 : decode cX5_isWifeOf 6 = .ok (.iconst 1, 1) := by decide +kernel
theorem dX5_isWifeOf_7 : decode cX5_isWifeOf 7 = .ok (.if_icmp .ne 17, 3) := by decide +kernel
theorem dX5_isWifeOf_10 : decode cX5_isWifeOf 10 = .ok (.aload_n 0, 1) := by decide +kernel
theorem dX5_isWifeOf_11 : decode cX5_isWifeOf 11 = .ok (.getfield 21, 3) := by decide +kernel
theorem dX5_isWifeOf_14 : decode cX5_isWifeOf 14 = .ok (.iload_n 1, 1) := by decide +kernel
theorem dX5_isWifeOf_15 : decode cX5_isWifeOf 15 = .ok (.iaload, 1) := by decide +kernel
theorem dX5_isWifeOf_16 : decode cX5_isWifeOf 16 = .ok (.iload_n 2, 1) := by decide +kernel
theorem dX5_isWifeOf_17 : decode cX5_isWifeOf 17 = .ok (.if_icmp .ne 7, 3) := by decide +kernel
theorem dX5_isWifeOf_20 : decode cX5_isWifeOf 20 = .ok (.iconst 1, 1) := by decide +kernel
theorem dX5_isWifeOf_21 : decode cX5_isWifeOf 21 = .ok (.goto 4, 3) := by decide +kernel
theorem dX5_isWifeOf_24 : decode cX5_isWifeOf 24 = .ok (.iconst 0, 1) := by decide +kernel
theorem dX5_isWifeOf_25 : decode cX5_isWifeOf 25 = .ok (.ireturn, 1) := by decide +kernel
theorem dX5_become_0 : decode cX5_become 0 = .ok (.aload_n 0, 1) := by decide +kernel
theorem dX5_become_1 : decode cX5_become 1 = .ok (.aload_n 1, 1) := by decide +kernel
theorem dX5_become_2 : decode cX5_become 2 = .ok (.getfield 27, 3) := by decide +kernel
theorem dX5_become_5 : decode cX5_become 5 = .ok (.putfield 27, 3) := by decide +kernel
theorem dX5_become_8 : decode cX5_become 8 = .ok (.aload_n 1, 1) := by decide +kernel
theorem dX5_become_9 : decode cX5_become 9 = .ok (.getfield 9, 3) := by decide +kernel
theorem dX5_become_12 : decode cX5_become 12 = .ok (.aload_n 0, 1) := by decide +kernel
theorem dX5_become_13 : decode cX5_become 13 = .ok (.getfield 9, 3) := by decide +kernel
theorem dX5_become_16 : decode cX5_become 16 = .ok (.invokestatic 38, 3) := by decide +kernel
theorem dX5_become_19 : decode cX5_become 19 = .ok (.aload_n 1, 1) := by decide +kernel
theorem dX5_become_20 : decode cX5_become 20 = .ok (.getfield 15, 3) := by decide +kernel
theorem dX5_become_23 : decode cX5_become 23 = .ok (.aload_n 0, 1) := by decide +kernel
theorem dX5_become_24 : decode cX5_become 24 = .ok (.getfield 15, 3) := by decide +kernel
theorem dX5_become_27 : decode cX5_become 27 = .ok (.invokestatic 38, 3) := by decide +kernel
theorem dX5_become_30 : decode cX5_become 30 = .ok (.aload_n 1, 1) := by decide +kernel
theorem dX5_become_31 : decode cX5_become 31 = .ok (.getfield 18, 3) := by decide +kernel
theorem dX5_become_34 : decode cX5_become 34 = .ok (.aload_n 0, 1) := by decide +kernel
theorem dX5_become_35 : decode cX5_become 35 = .ok (.getfield 18, 3) := by decide +kernel
theorem dX5_become_38 : decode cX5_become 38 = .ok (.invokestatic 38, 3) := by decide +kernel
theorem dX5_become_41 : decode cX5_become 41 = .ok (.aload_n 1, 1) := by decide +kernel
theorem dX5_become_42 : decode cX5_become 42 = .ok (.getfield 21, 3) := by decide +kernel
theorem dX5_become_45 : decode cX5_become 45 = .ok (.aload_n 0, 1) := by decide +kernel
theorem dX5_become_46 : decode cX5_become 46 = .ok (.getfield 21, 3) := by decide +kernel
theorem dX5_become_49 : decode cX5_become 49 = .ok (.invokestatic 38, 3) := by decide +kernel
theorem dX5_become_52 : decode cX5_become 52 = .ok (.aload_n 1, 1) := by decide +kernel
theorem dX5_become_53 : decode cX5_become 53 = .ok (.getfield 24, 3) := by decide +kernel
theorem dX5_become_56 : decode cX5_become 56 = .ok (.aload_n 0, 1) := by decide +kernel
theorem dX5_become_57 : decode cX5_become 57 = .ok (.getfield 24, 3) := by decide +kernel
theorem dX5_become_60 : decode cX5_become 60 = .ok (.invokestatic 38, 3) := by decide +kernel
theorem dX5_become_63 : decode cX5_become 63 = .ok (.return_, 1) := by decide +kernel
theorem dX6_init_0 : decode cX6_init 0 = .ok (.aload_n 0, 1) := by decide +kernel
theorem dX6_init_1 : decode cX6_init 1 = .ok (.invokespecial 3, 3) := by decide +kernel
theorem dX6_init_4 : decode cX6_init 4 = .ok (.aload_n 0, 1) := by decide +kernel
theorem dX6_init_5 : decode cX6_init 5 = .ok (.iconst 3, 1) := by decide +kernel
theorem dX6_init_6 : decode cX6_init 6 = .ok (.putfield 9, 3) := by decide +kernel
theorem dX6_init_9 : decode cX6_init 9 = .ok (.aload_n 0, 1) := by decide +kernel
theorem dX6_init_10 : decode cX6_init 10 = .ok (.bipush 10, 2) := by decide +kernel
theorem dX6_init_12 : decode cX6_init 12 = .ok (.newarray .int, 2) := by decide +kernel
theorem dX6_init_14 : decode cX6_init 14 = .ok (.putfield 15, 3) := by decide +kernel
theorem dX6_init_17 : decode cX6_init 17 = .ok (.aload_n 0, 1) := by decide +kernel
theorem dX6_init_18 : decode cX6_init 18 = .ok (.bipush 10, 2) := by decide +kernel
theorem dX6_init_20 : decode cX6_init 20 = .ok (.newarray .int, 2) := by decide +kernel
theorem dX6_init_22 : decode cX6_init 22 = .ok (.putfield 19, 3) := by decide +kernel
theorem dX6_init_25 : decode cX6_init 25 = .ok (.aload_n 0, 1) := by decide +kernel
theorem dX6_init_26 : decode cX6_init 26 = .ok (.bipush 10, 2) := by decide +kernel
theorem dX6_init_28 : decode cX6_init 28 = .ok (.newarray .int, 2) := by decide +kernel
theorem dX6_init_30 : decode cX6_init 30 = .ok (.putfield 22, 3) := by decide +kernel
theorem dX6_init_33 : decode cX6_init 33 = .ok (.aload_n 0, 1) := by decide +kernel
theorem dX6_init_34 : decode cX6_init 34 = .ok (.bipush 60, 2) := by decide +kernel
theorem dX6_init_36 : decode cX6_init 36 = .ok (.newarray .int, 2) := by decide +kernel
theorem dX6_init_38 : decode cX6_init 38 = .ok (.putfield 25, 3) := by decide +kernel
theorem dX6_init_41 : decode cX6_init 41 = .ok (.return_, 1) := by decide +kernel
theorem dX6_enter_0 : decode cX6_enter 0 = .ok (.aload_n 0, 1) := by decide +kernel
theorem dX6_enter_1 : decode cX6_enter 1 = .ok (.getfield 15, 3) := by decide +kernel
theorem dX6_enter_4 : decode cX6_enter 4 = .ok (.iload_n 1, 1) := by decide +kernel
theorem dX6_enter_5 : decode cX6_enter 5 = .ok (.iconst (-1), 1) := by decide +kernel
theorem dX6_enter_6 : decode cX6_enter 6 = .ok (.iastore, 1) := by decide +kernel
theorem dX6_enter_7 : decode cX6_enter 7 = .ok (.aload_n 0, 1) := by decide +kernel
theorem dX6_enter_8 : decode cX6_enter 8 = .ok (.getfield 19, 3) := by decide +kernel
theorem dX6_enter_11 : decode cX6_enter 11 = .ok (.iload_n 1, 1) := by decide +kernel
theorem dX6_enter_12 : decode cX6_enter 12 = .ok (.iconst 0, 1) := by decide +kernel
theorem dX6_enter_13 : decode cX6_enter 13 = .ok (.iastore, 1) := by decide +kernel
theorem dX6_enter_14 : decode cX6_enter 14 = .ok (.aload_n 0, 1) := by decide +kernel
theorem dX6_enter_15 : decode cX6_enter 15 = .ok (.getfield 22, 3) := by decide +kernel
theorem dX6_enter_18 : decode cX6_enter 18 = .ok (.iload_n 1, 1) := by decide +kernel
theorem dX6_enter_19 : decode cX6_enter 19 = .ok (.iconst 0, 1) := by decide +kernel
theorem dX6_enter_20 : decode cX6_enter 20 = .ok (.iastore, 1) := by decide +kernel
theorem dX6_enter_21 : decode cX6_enter 21 = .ok (.return_, 1) := by decide +kernel
theorem dX6_listIn_0 : decode cX6_listIn 0 = .ok (.aload_n 0, 1) := by decide +kernel
theorem dX6_listIn_1 : decode cX6_listIn 1 = .ok (.getfield 19, 3) := by decide +kernel
theorem dX6_listIn_4 : decode cX6_listIn 4 = .ok (.iload_n 1, 1) := by decide +kernel
theorem dX6_listIn_5 : decode cX6_listIn 5 = .ok (.iaload, 1) := by decide +kernel
theorem dX6_listIn_6 : decode cX6_listIn 6 = .ok (.iload_n 2, 1) := by decide +kernel
theorem dX6_listIn_7 : decode cX6_listIn 7 = .ok (.if_icmp .gt 12, 3) := by decide +kernel
theorem dX6_listIn_10 : decode cX6_listIn 10 = .ok (.aload_n 0, 1) := by decide +kernel
theorem dX6_listIn_11 : decode cX6_listIn 11 = .ok (.getfield 15, 3) := by decide +kernel
theorem dX6_listIn_14 : decode cX6_listIn 14 = .ok (.iload_n 1, 1) := by decide +kernel
theorem dX6_listIn_15 : decode cX6_listIn 15 = .ok (.iaload, 1) := by decide +kernel
theorem dX6_listIn_16 : decode cX6_listIn 16 = .ok (.goto 4, 3) := by decide +kernel
theorem dX6_listIn_19 : decode cX6_listIn 19 = .ok (.iconst (-1), 1) := by decide +kernel
theorem dX6_listIn_20 : decode cX6_listIn 20 = .ok (.ireturn, 1) := by decide +kernel
theorem dX6_reliefOf_0 : decode cX6_reliefOf 0 = .ok (.aload_n 0, 1) := by decide +kernel
theorem dX6_reliefOf_1 : decode cX6_reliefOf 1 = .ok (.iload_n 2, 1) := by decide +kernel
theorem dX6_reliefOf_2 : decode cX6_reliefOf 2 = .ok (.iload_n 3, 1) := by decide +kernel
theorem dX6_reliefOf_3 : decode cX6_reliefOf 3 = .ok (.invokevirtual 28, 3) := by decide +kernel
theorem dX6_reliefOf_6 : decode cX6_reliefOf 6 = .ok (.istore 4, 2) := by decide +kernel
theorem dX6_reliefOf_8 : decode cX6_reliefOf 8 = .ok (.iload 4, 2) := by decide +kernel
theorem dX6_reliefOf_10 : decode cX6_reliefOf 10 = .ok (.iconst (-1), 1) := by decide +kernel
theorem dX6_reliefOf_11 : decode cX6_reliefOf 11 = .ok (.if_icmp .eq 13, 3) := by decide +kernel
theorem dX6_reliefOf_14 : decode cX6_reliefOf 14 = .ok (.aload_n 0, 1) := by decide +kernel
theorem dX6_reliefOf_15 : decode cX6_reliefOf 15 = .ok (.aload_n 1, 1) := by decide +kernel
theorem dX6_reliefOf_16 : decode cX6_reliefOf 16 = .ok (.iload_n 2, 1) := by decide +kernel
theorem dX6_reliefOf_17 : decode cX6_reliefOf 17 = .ok (.iload_n 3, 1) := by decide +kernel
theorem dX6_reliefOf_18 : decode cX6_reliefOf 18 = .ok (.invokevirtual 32, 3) := by decide +kernel
theorem dX6_reliefOf_21 : decode cX6_reliefOf 21 = .ok (.ifCond .eq 5, 3) := by decide +kernel
theorem dX6_reliefOf_24 : decode cX6_reliefOf 24 = .ok (.iconst 0, 1) := by decide +kernel
theorem dX6_reliefOf_25 : decode cX6_reliefOf 25 = .ok (.ireturn, 1) := by decide +kernel
theorem dX6_reliefOf_26 : decode cX6_reliefOf 26 = .ok (.aload_n 0, 1) := by decide +kernel
theorem dX6_reliefOf_27 : decode cX6_reliefOf 27 = .ok (.getfield 9, 3) := by decide +kernel
theorem dX6_reliefOf_30 : decode cX6_reliefOf 30 = .ok (.istore 5, 2) := by decide +kernel
theorem dX6_reliefOf_32 : decode cX6_reliefOf 32 = .ok (.iconst 0, 1) := by decide +kernel
theorem dX6_reliefOf_33 : decode cX6_reliefOf 33 = .ok (.istore 6, 2) := by decide +kernel
theorem dX6_reliefOf_35 : decode cX6_reliefOf 35 = .ok (.iload 6, 2) := by decide +kernel
theorem dX6_reliefOf_37 : decode cX6_reliefOf 37 = .ok (.aload_n 1, 1) := by decide +kernel
end
section
theorem dX6_reliefOf_38 : decode cX6_reliefOf 38 = .ok (.getfield 36, 3) := by decide +kernel
theorem dX6_reliefOf_41 : decode cX6_reliefOf 41 = .ok (.if_icmp .ge 34, 3) := by decide +kernel
theorem dX6_reliefOf_44 : decode cX6_reliefOf 44 = .ok (.aload_n 1, 1) := by decide +kernel
theorem dX6_reliefOf_45 : decode cX6_reliefOf 45 = .ok (.iload 6, 2) := by decide +kernel
theorem dX6_reliefOf_47 : decode cX6_reliefOf 47 = .ok (.iload_n 2, 1) := by decide +kernel
theorem dX6_reliefOf_48 : decode cX6_reliefOf 48 = .ok (.invokevirtual 41, 3) := by decide +kernel
theorem dX6_reliefOf_51 : decode cX6_reliefOf 51 = .ok (.ifCond .eq 18, 3) := by decide +kernel
theorem dX6_reliefOf_54 : decode cX6_reliefOf 54 = .ok (.aload_n 0, 1) := by decide +kernel
theorem dX6_reliefOf_55 : decode cX6_reliefOf 55 = .ok (.iload 6, 2) := by decide +kernel
theorem dX6_reliefOf_57 : decode cX6_reliefOf 57 = .ok (.iload_n 3, 1) := by decide +kernel
theorem dX6_reliefOf_58 : decode cX6_reliefOf 58 = .ok (.invokevirtual 28, 3) := by decide +kernel
theorem dX6_reliefOf_61 : decode cX6_reliefOf 61 = .ok (.iload 4, 2) := by decide +kernel
theorem dX6_reliefOf_63 : decode cX6_reliefOf 63 = .ok (.if_icmp .ne 6, 3) := by decide +kernel
theorem dX6_reliefOf_66 : decode cX6_reliefOf 66 = .ok (.iinc 5 2, 3) := by decide +kernel
theorem dX6_reliefOf_69 : decode cX6_reliefOf 69 = .ok (.iinc 6 1, 3) := by decide +kernel
theorem dX6_reliefOf_72 : decode cX6_reliefOf 72 = .ok (.goto (-37), 3) := by decide +kernel
theorem dX6_reliefOf_75 : decode cX6_reliefOf 75 = .ok (.iconst 0, 1) := by decide +kernel
theorem dX6_reliefOf_76 : decode cX6_reliefOf 76 = .ok (.iload 5, 2) := by decide +kernel
theorem dX6_reliefOf_78 : decode cX6_reliefOf 78 = .ok (.aload_n 0, 1) := by decide +kernel
theorem dX6_reliefOf_79 : decode cX6_reliefOf 79 = .ok (.getfield 25, 3) := by decide +kernel
theorem dX6_reliefOf_82 : decode cX6_reliefOf 82 = .ok (.iload_n 3, 1) := by decide +kernel
theorem dX6_reliefOf_83 : decode cX6_reliefOf 83 = .ok (.iaload, 1) := by decide +kernel
theorem dX6_reliefOf_84 : decode cX6_reliefOf 84 = .ok (.imul, 1) := by decide +kernel
theorem dX6_reliefOf_85 : decode cX6_reliefOf 85 = .ok (.aload_n 0, 1) := by decide +kernel
theorem dX6_reliefOf_86 : decode cX6_reliefOf 86 = .ok (.getfield 22, 3) := by decide +kernel
theorem dX6_reliefOf_89 : decode cX6_reliefOf 89 = .ok (.iload_n 2, 1) := by decide +kernel
theorem dX6_reliefOf_90 : decode cX6_reliefOf 90 = .ok (.iaload, 1) := by decide +kernel
theorem dX6_reliefOf_91 : decode cX6_reliefOf 91 = .ok (.isub, 1) := by decide +kernel
theorem dX6_reliefOf_92 : decode cX6_reliefOf 92 = .ok (.invokestatic 45, 3) := by decide +kernel
theorem dX6_reliefOf_95 : decode cX6_reliefOf 95 = .ok (.ireturn, 1) := by decide +kernel
theorem dX6_isKeptByHusband_0 : decode cX6_isKeptByHusband 0 = .ok (.aload_n 1, 1) := by decide +kernel
theorem dX6_isKeptByHusband_1 : decode cX6_isKeptByHusband 1 = .ok (.getfield 50, 3) := by decide +kernel
theorem dX6_isKeptByHusband_4 : decode cX6_isKeptByHusband 4 = .ok (.iload_n 2, 1) := by decide +kernel
theorem dX6_isKeptByHusband_5 : decode cX6_isKeptByHusband 5 = .ok (.iaload, 1) := by decide +kernel
theorem dX6_isKeptByHusband_6 : decode cX6_isKeptByHusband 6 = .ok (.istore 4, 2) := by decide +kernel
theorem dX6_isKeptByHusband_8 : decode cX6_isKeptByHusband 8 = .ok (.aload_n 1, 1) := by decide +kernel
theorem dX6_isKeptByHusband_9 : decode cX6_isKeptByHusband 9 = .ok (.iload 4, 2) := by decide +kernel
theorem dX6_isKeptByHusband_11 : decode cX6_isKeptByHusband 11 = .ok (.invokevirtual 53, 3) := by decide +kernel
theorem dX6_isKeptByHusband_14 : decode cX6_isKeptByHusband 14 = .ok (.ifCond .eq 33, 3) := by decide +kernel
theorem dX6_isKeptByHusband_17 : decode cX6_isKeptByHusband 17 = .ok (.aload_n 1, 1) := by decide +kernel
theorem dX6_isKeptByHusband_18 : decode cX6_isKeptByHusband 18 = .ok (.iload_n 2, 1) := by decide +kernel
theorem dX6_isKeptByHusband_19 : decode cX6_isKeptByHusband 19 = .ok (.iload 4, 2) := by decide +kernel
theorem dX6_isKeptByHusband_21 : decode cX6_isKeptByHusband 21 = .ok (.invokevirtual 41, 3) := by decide +kernel
theorem dX6_isKeptByHusband_24 : decode cX6_isKeptByHusband 24 = .ok (.ifCond .eq 23, 3) := by decide +kernel
theorem dX6_isKeptByHusband_27 : decode cX6_isKeptByHusband 27 = .ok (.aload_n 0, 1) := by decide +kernel
theorem dX6_isKeptByHusband_28 : decode cX6_isKeptByHusband 28 = .ok (.iload 4, 2) := by decide +kernel
theorem dX6_isKeptByHusband_30 : decode cX6_isKeptByHusband 30 = .ok (.iload_n 3, 1) := by decide +kernel
theorem dX6_isKeptByHusband_31 : decode cX6_isKeptByHusband 31 = .ok (.invokevirtual 28, 3) := by decide +kernel
theorem dX6_isKeptByHusband_34 : decode cX6_isKeptByHusband 34 = .ok (.aload_n 0, 1) := by decide +kernel
theorem dX6_isKeptByHusband_35 : decode cX6_isKeptByHusband 35 = .ok (.iload_n 2, 1) := by decide +kernel
theorem dX6_isKeptByHusband_36 : decode cX6_isKeptByHusband 36 = .ok (.iload_n 3, 1) := by decide +kernel
theorem dX6_isKeptByHusband_37 : decode cX6_isKeptByHusband 37 = .ok (.invokevirtual 28, 3) := by decide +kernel
theorem dX6_isKeptByHusband_40 : decode cX6_isKeptByHusband 40 = .ok (.if_icmp .ne 7, 3) := by decide +kernel
theorem dX6_isKeptByHusband_43 : decode cX6_isKeptByHusband 43 = .ok (.iconst 1, 1) := by decide +kernel
theorem dX6_isKeptByHusband_44 : decode cX6_isKeptByHusband 44 = .ok (.goto 4, 3) := by decide +kernel
theorem dX6_isKeptByHusband_47 : decode cX6_isKeptByHusband 47 = .ok (.iconst 0, 1) := by decide +kernel
theorem dX6_isKeptByHusband_48 : decode cX6_isKeptByHusband 48 = .ok (.ireturn, 1) := by decide +kernel
theorem dX6_reliefOfAll_0 : decode cX6_reliefOfAll 0 = .ok (.iconst 0, 1) := by decide +kernel
theorem dX6_reliefOfAll_1 : decode cX6_reliefOfAll 1 = .ok (.istore 4, 2) := by decide +kernel
theorem dX6_reliefOfAll_3 : decode cX6_reliefOfAll 3 = .ok (.iconst 0, 1) := by decide +kernel
theorem dX6_reliefOfAll_4 : decode cX6_reliefOfAll 4 = .ok (.istore 5, 2) := by decide +kernel
theorem dX6_reliefOfAll_6 : decode cX6_reliefOfAll 6 = .ok (.iload 5, 2) := by decide +kernel
theorem dX6_reliefOfAll_8 : decode cX6_reliefOfAll 8 = .ok (.aload_n 1, 1) := by decide +kernel
theorem dX6_reliefOfAll_9 : decode cX6_reliefOfAll 9 = .ok (.getfield 36, 3) := by decide +kernel
theorem dX6_reliefOfAll_12 : decode cX6_reliefOfAll 12 = .ok (.if_icmp .ge 33, 3) := by decide +kernel
theorem dX6_reliefOfAll_15 : decode cX6_reliefOfAll 15 = .ok (.aload_n 0, 1) := by decide +kernel
theorem dX6_reliefOfAll_16 : decode cX6_reliefOfAll 16 = .ok (.iload 5, 2) := by decide +kernel
theorem dX6_reliefOfAll_18 : decode cX6_reliefOfAll 18 = .ok (.iload_n 3, 1) := by decide +kernel
theorem dX6_reliefOfAll_19 : decode cX6_reliefOfAll 19 = .ok (.invokevirtual 28, 3) := by decide +kernel
theorem dX6_reliefOfAll_22 : decode cX6_reliefOfAll 22 = .ok (.iload_n 2, 1) := by decide +kernel
theorem dX6_reliefOfAll_23 : decode cX6_reliefOfAll 23 = .ok (.if_icmp .ne 16, 3) := by decide +kernel
theorem dX6_reliefOfAll_26 : decode cX6_reliefOfAll 26 = .ok (.iload 4, 2) := by decide +kernel
theorem dX6_reliefOfAll_28 : decode cX6_reliefOfAll 28 = .ok (.aload_n 0, 1) := by decide +kernel
theorem dX6_reliefOfAll_29 : decode cX6_reliefOfAll 29 = .ok (.aload_n 1, 1) := by decide +kernel
theorem dX6_reliefOfAll_30 : decode cX6_reliefOfAll 30 = .ok (.iload 5, 2) := by decide +kernel
theorem dX6_reliefOfAll_32 : decode cX6_reliefOfAll 32 = .ok (.iload_n 3, 1) := by decide +kernel
theorem dX6_reliefOfAll_33 : decode cX6_reliefOfAll 33 = .ok (.invokevirtual 57, 3) := by decide +kernel
theorem dX6_reliefOfAll_36 : decode cX6_reliefOfAll 36 = .ok (.iadd, 1) := by decide +kernel
theorem dX6_reliefOfAll_37 : decode cX6_reliefOfAll 37 = .ok (.istore 4, 2) := by decide +kernel
theorem dX6_reliefOfAll_39 : decode cX6_reliefOfAll 39 = .ok (.iinc 5 1, 3) := by decide +kernel
theorem dX6_reliefOfAll_42 : decode cX6_reliefOfAll 42 = .ok (.goto (-36), 3) := by decide +kernel
theorem dX6_reliefOfAll_45 : decode cX6_reliefOfAll 45 = .ok (.iload 4, 2) := by decide +kernel
theorem dX6_reliefOfAll_47 : decode cX6_reliefOfAll 47 = .ok (.ireturn, 1) := by decide +kernel
theorem dX6_readPrices_0 : decode cX6_readPrices 0 = .ok (.iconst 0, 1) := by decide +kernel
theorem dX6_readPrices_1 : decode cX6_readPrices 1 = .ok (.istore_n 2, 1) := by decide +kernel
theorem dX6_readPrices_2 : decode cX6_readPrices 2 = .ok (.aload_n 1, 1) := by decide +kernel
theorem dX6_readPrices_3 : decode cX6_readPrices 3 = .ok (.getfield 61, 3) := by decide +kernel
theorem dX6_readPrices_6 : decode cX6_readPrices 6 = .ok (.bipush 60, 2) := by decide +kernel
theorem dX6_readPrices_8 : decode cX6_readPrices 8 = .ok (.invokestatic 66, 3) := by decide +kernel
theorem dX6_readPrices_11 : decode cX6_readPrices 11 = .ok (.istore_n 3, 1) := by decide +kernel
theorem dX6_readPrices_12 : decode cX6_readPrices 12 = .ok (.iconst 0, 1) := by decide +kernel
theorem dX6_readPrices_13 : decode cX6_readPrices 13 = .ok (.istore 4, 2) := by decide +kernel
theorem dX6_readPrices_15 : decode cX6_readPrices 15 = .ok (.iload 4, 2) := by decide +kernel
theorem dX6_readPrices_17 : decode cX6_readPrices 17 = .ok (.iload_n 3, 1) := by decide +kernel
theorem dX6_readPrices_18 : decode cX6_readPrices 18 = .ok (.if_icmp .ge 60, 3) := by decide +kernel
theorem dX6_readPrices_21 : decode cX6_readPrices 21 = .ok (.aload_n 1, 1) := by decide +kernel
theorem dX6_readPrices_22 : decode cX6_readPrices 22 = .ok (.getfield 69, 3) := by decide +kernel
theorem dX6_readPrices_25 : decode cX6_readPrices 25 = .ok (.iload 4, 2) := by decide +kernel
theorem dX6_readPrices_27 : decode cX6_readPrices 27 = .ok (.iaload, 1) := by decide +kernel
theorem dX6_readPrices_28 : decode cX6_readPrices 28 = .ok (.iconst 1, 1) := by decide +kernel
theorem dX6_readPrices_29 : decode cX6_readPrices 29 = .ok (.bipush 99, 2) := by decide +kernel
theorem dX6_readPrices_31 : decode cX6_readPrices 31 = .ok (.invokestatic 72, 3) := by decide +kernel
theorem dX6_readPrices_34 : decode cX6_readPrices 34 = .ok (.istore 5, 2) := by decide +kernel
theorem dX6_readPrices_36 : decode cX6_readPrices 36 = .ok (.aload_n 0, 1) := by decide +kernel
theorem dX6_readPrices_37 : decode cX6_readPrices 37 = .ok (.getfield 25, 3) := by decide +kernel
theorem dX6_readPrices_40 : decode cX6_readPrices 40 = .ok (.iload 4, 2) := by decide +kernel
theorem dX6_readPrices_42 : decode cX6_readPrices 42 = .ok (.iload 5, 2) := by decide +kernel
theorem dX6_readPrices_44 : decode cX6_readPrices 44 = .ok (.ifCond .eq 13, 3) := by decide +kernel
theorem dX6_readPrices_47 : decode cX6_readPrices 47 = .ok (.aload_n 1, 1) := by decide +kernel
theorem dX6_readPrices_48 : decode cX6_readPrices 48 = .ok (.getfield 69, 3) := by decide +kernel
theorem dX6_readPrices_51 : decode cX6_readPrices 51 = .ok (.iload 4, 2) := by decide +kernel
theorem dX6_readPrices_53 : decode cX6_readPrices 53 = .ok (.iaload, 1) := by decide +kernel
theorem dX6_readPrices_54 : decode cX6_readPrices 54 = .ok (.goto 4, 3) := by decide +kernel
theorem dX6_readPrices_57 : decode cX6_readPrices 57 = .ok (.iconst 0, 1) := by decide +kernel
theorem dX6_readPrices_58 : decode cX6_readPrices 58 = .ok (.iastore, 1) := by decide +kernel
theorem dX6_readPrices_59 : decode cX6_readPrices 59 = .ok (.iload_n 2, 1) := by decide +kernel
theorem dX6_readPrices_60 : decode cX6_readPrices 60 = .ok (.iload 5, 2) := by decide +kernel
theorem dX6_readPrices_62 : decode cX6_readPrices 62 = .ok (.ifCond .eq 7, 3) := by decide +kernel
theorem dX6_readPrices_65 : decode cX6_readPrices 65 = .ok (.iconst 1, 1) := by decide +kernel
theorem dX6_readPrices_66 : decode cX6_readPrices 66 = .ok (.goto 4, 3) := by decide +kernel
theorem dX6_readPrices_69 : decode cX6_readPrices 69 = .ok (.iconst 0, 1) := by decide +kernel
theorem dX6_readPrices_70 : decode cX6_readPrices 70 = .ok (.iadd, 1) := by decide +kernel
theorem dX6_readPrices_71 : decode cX6_readPrices 71 = .ok (.istore_n 2, 1) := by decide +kernel
theorem dX6_readPrices_72 : decode cX6_readPrices 72 = .ok (.iinc 4 1, 3) := by decide +kernel
theorem dX6_readPrices_75 : decode cX6_readPrices 75 = .ok (.goto (-60), 3) := by decide +kernel
theorem dX6_readPrices_78 : decode cX6_readPrices 78 = .ok (.iload_n 2, 1) := by decide +kernel
theorem dX6_readPrices_79 : decode cX6_readPrices 79 = .ok (.ireturn, 1) := by decide +kernel
theorem dX6_become_0 : decode cX6_become 0 = .ok (.aload_n 0, 1) := by decide +kernel
theorem dX6_become_1 : decode cX6_become 1 = .ok (.aload_n 1, 1) := by decide +kernel
theorem dX6_become_2 : decode cX6_become 2 = .ok (.getfield 9, 3) := by decide +kernel
theorem dX6_become_5 : decode cX6_become 5 = .ok (.putfield 9, 3) := by decide +kernel
theorem dX6_become_8 : decode cX6_become 8 = .ok (.aload_n 1, 1) := by decide +kernel
theorem dX6_become_9 : decode cX6_become 9 = .ok (.getfield 15, 3) := by decide +kernel
theorem dX6_become_12 : decode cX6_become 12 = .ok (.aload_n 0, 1) := by decide +kernel
theorem dX6_become_13 : decode cX6_become 13 = .ok (.getfield 15, 3) := by decide +kernel
theorem dX6_become_16 : decode cX6_become 16 = .ok (.invokestatic 76, 3) := by decide +kernel
theorem dX6_become_19 : decode cX6_become 19 = .ok (.aload_n 1, 1) := by decide +kernel
theorem dX6_become_20 : decode cX6_become 20 = .ok (.getfield 19, 3) := by decide +kernel
theorem dX6_become_23 : decode cX6_become 23 = .ok (.aload_n 0, 1) := by decide +kernel
theorem dX6_become_24 : decode cX6_become 24 = .ok (.getfield 19, 3) := by decide +kernel
theorem dX6_become_27 : decode cX6_become 27 = .ok (.invokestatic 76, 3) := by decide +kernel
theorem dX6_become_30 : decode cX6_become 30 = .ok (.aload_n 1, 1) := by decide +kernel
theorem dX6_become_31 : decode cX6_become 31 = .ok (.getfield 22, 3) := by decide +kernel
theorem dX6_become_34 : decode cX6_become 34 = .ok (.aload_n 0, 1) := by decide +kernel
theorem dX6_become_35 : decode cX6_become 35 = .ok (.getfield 22, 3) := by decide +kernel
theorem dX6_become_38 : decode cX6_become 38 = .ok (.invokestatic 76, 3) := by decide +kernel
theorem dX6_become_41 : decode cX6_become 41 = .ok (.aload_n 1, 1) := by decide +kernel
theorem dX6_become_42 : decode cX6_become 42 = .ok (.getfield 25, 3) := by decide +kernel
theorem dX6_become_45 : decode cX6_become 45 = .ok (.aload_n 0, 1) := by decide +kernel
theorem dX6_become_46 : decode cX6_become 46 = .ok (.getfield 25, 3) := by decide +kernel
theorem dX6_become_49 : decode cX6_become 49 = .ok (.invokestatic 76, 3) := by decide +kernel
theorem dX6_become_52 : decode cX6_become 52 = .ok (.return_, 1) := by decide +kernel
theorem dX7_init_0 : decode cX7_init 0 = .ok (.aload_n 0, 1) := by decide +kernel
theorem dX7_init_1 : decode cX7_init 1 = .ok (.invokespecial 3, 3) := by decide +kernel
theorem dX7_init_4 : decode cX7_init 4 = .ok (.aload_n 0, 1) := by decide +kernel
theorem dX7_init_5 : decode cX7_init 5 = .ok (.bipush 24, 2) := by decide +kernel
theorem dX7_init_7 : decode cX7_init 7 = .ok (.newarray .int, 2) := by decide +kernel
theorem dX7_init_9 : decode cX7_init 9 = .ok (.putfield 9, 3) := by decide +kernel
theorem dX7_init_12 : decode cX7_init 12 = .ok (.aload_n 0, 1) := by decide +kernel
theorem dX7_init_13 : decode cX7_init 13 = .ok (.bipush 10, 2) := by decide +kernel
theorem dX7_init_15 : decode cX7_init 15 = .ok (.newarray .int, 2) := by decide +kernel
theorem dX7_init_17 : decode cX7_init 17 = .ok (.putfield 15, 3) := by decide +kernel
theorem dX7_init_20 : decode cX7_init 20 = .ok (.aload_n 0, 1) := by decide +kernel
theorem dX7_init_21 : decode cX7_init 21 = .ok (.bipush 10, 2) := by decide +kernel
theorem dX7_init_23 : decode cX7_init 23 = .ok (.newarray .int, 2) := by decide +kernel
theorem dX7_init_25 : decode cX7_init 25 = .ok (.putfield 18, 3) := by decide +kernel
theorem dX7_init_28 : decode cX7_init 28 = .ok (.aload_n 0, 1) := by decide +kernel
theorem dX7_init_29 : decode cX7_init 29 = .ok (.bipush 8, 2) := by decide +kernel
theorem dX7_init_31 : decode cX7_init 31 = .ok (.newarray .int, 2) := by decide +kernel
theorem dX7_init_33 : decode cX7_init 33 = .ok (.putfield 21, 3) := by decide +kernel
theorem dX7_init_36 : decode cX7_init 36 = .ok (.aload_n 0, 1) := by decide +kernel
theorem dX7_init_37 : decode cX7_init 37 = .ok (.bipush 8, 2) := by decide +kernel
theorem dX7_init_39 : decode cX7_init 39 = .ok (.newarray .int, 2) := by decide +kernel
theorem dX7_init_41 : decode cX7_init 41 = .ok (.putfield 24, 3) := by decide +kernel
theorem dX7_init_44 : decode cX7_init 44 = .ok (.aload_n 0, 1) := by decide +kernel
theorem dX7_init_45 : decode cX7_init 45 = .ok (.bipush 8, 2) := by decide +kernel
theorem dX7_init_47 : decode cX7_init 47 = .ok (.newarray .int, 2) := by decide +kernel
theorem dX7_init_49 : decode cX7_init 49 = .ok (.putfield 27, 3) := by decide +kernel
theorem dX7_init_52 : decode cX7_init 52 = .ok (.aload_n 0, 1) := by decide +kernel
theorem dX7_init_53 : decode cX7_init 53 = .ok (.aload_n 1, 1) := by decide +kernel
theorem dX7_init_54 : decode cX7_init 54 = .ok (.putfield 30, 3) := by decide +kernel
theorem dX7_init_57 : decode cX7_init 57 = .ok (.return_, 1) := by decide +kernel
theorem dX7_ownOf_0 : decode cX7_ownOf 0 = .ok (.aload_n 0, 1) := by decide +kernel
theorem dX7_ownOf_1 : decode cX7_ownOf 1 = .ok (.iload_n 1, 1) := by decide +kernel
theorem dX7_ownOf_2 : decode cX7_ownOf 2 = .ok (.iload_n 2, 1) := by decide +kernel
theorem dX7_ownOf_3 : decode cX7_ownOf 3 = .ok (.iload_n 3, 1) := by decide +kernel
theorem dX7_ownOf_4 : decode cX7_ownOf 4 = .ok (.invokevirtual 34, 3) := by decide +kernel
theorem dX7_ownOf_7 : decode cX7_ownOf 7 = .ok (.aload_n 0, 1) := by decide +kernel
theorem dX7_ownOf_8 : decode cX7_ownOf 8 = .ok (.iconst 0, 1) := by decide +kernel
theorem dX7_ownOf_9 : decode cX7_ownOf 9 = .ok (.iconst 0, 1) := by decide +kernel
theorem dX7_ownOf_10 : decode cX7_ownOf 10 = .ok (.invokevirtual 38, 3) := by decide +kernel
theorem dX7_ownOf_13 : decode cX7_ownOf 13 = .ok (.ireturn, 1) := by decide +kernel
theorem dX7_settlementOf_0 : decode cX7_settlementOf 0 = .ok (.aload_n 0, 1) := by decide +kernel
theorem dX7_settlementOf_1 : decode cX7_settlementOf 1 = .ok (.iload_n 1, 1) := by decide +kernel
theorem dX7_settlementOf_2 : decode cX7_settlementOf 2 = .ok (.iload_n 2, 1) := by decide +kernel
theorem dX7_settlementOf_3 : decode cX7_settlementOf 3 = .ok (.iload_n 3, 1) := by decide +kernel
theorem dX7_settlementOf_4 : decode cX7_settlementOf 4 = .ok (.invokevirtual 34, 3) := by decide +kernel
theorem dX7_settlementOf_7 : decode cX7_settlementOf 7 = .ok (.aload_n 0, 1) := by decide +kernel
theorem dX7_settlementOf_8 : decode cX7_settlementOf 8 = .ok (.iconst 0, 1) := by decide +kernel
theorem dX7_settlementOf_9 : decode cX7_settlementOf 9 = .ok (.invokevirtual 42, 3) := by decide +kernel
theorem dX7_settlementOf_12 : decode cX7_settlementOf 12 = .ok (.ireturn, 1) := by decide +kernel
theorem dX7_tellerOf_0 : decode cX7_tellerOf 0 = .ok (.aload_n 0, 1) := by decide +kernel
theorem dX7_tellerOf_1 : decode cX7_tellerOf 1 = .ok (.iload_n 1, 1) := by decide +kernel
theorem dX7_tellerOf_2 : decode cX7_tellerOf 2 = .ok (.iload_n 2, 1) := by decide +kernel
theorem dX7_tellerOf_3 : decode cX7_tellerOf 3 = .ok (.iload_n 3, 1) := by decide +kernel
theorem dX7_tellerOf_4 : decode cX7_tellerOf 4 = .ok (.invokevirtual 34, 3) := by decide +kernel
theorem dX7_tellerOf_7 : decode cX7_tellerOf 7 = .ok (.aload_n 0, 1) := by decide +kernel
theorem dX7_tellerOf_8 : decode cX7_tellerOf 8 = .ok (.getfield 15, 3) := by decide +kernel
theorem dX7_tellerOf_11 : decode cX7_tellerOf 11 = .ok (.aload_n 0, 1) := by decide +kernel
theorem dX7_tellerOf_12 : decode cX7_tellerOf 12 = .ok (.iconst 0, 1) := by decide +kernel
theorem dX7_tellerOf_13 : decode cX7_tellerOf 13 = .ok (.invokevirtual 46, 3) := by decide +kernel
theorem dX7_tellerOf_16 : decode cX7_tellerOf 16 = .ok (.iaload, 1) := by decide +kernel
theorem dX7_tellerOf_17 : decode cX7_tellerOf 17 = .ok (.ireturn, 1) := by decide +kernel
theorem dX7_couldBe_0 : decode cX7_couldBe 0 = .ok (.aload_n 0, 1) := by decide +kernel
theorem dX7_couldBe_1 : decode cX7_couldBe 1 = .ok (.iload_n 1, 1) := by decide +kernel
theorem dX7_couldBe_2 : decode cX7_couldBe 2 = .ok (.iload_n 2, 1) := by decide +kernel
theorem dX7_couldBe_3 : decode cX7_couldBe 3 = .ok (.iload_n 3, 1) := by decide +kernel
theorem dX7_couldBe_4 : decode cX7_couldBe 4 = .ok (.invokevirtual 34, 3) := by decide +kernel
theorem dX7_couldBe_7 : decode cX7_couldBe 7 = .ok (.aload_n 0, 1) := by decide +kernel
theorem dX7_couldBe_8 : decode cX7_couldBe 8 = .ok (.invokevirtual 49, 3) := by decide +kernel
theorem dX7_couldBe_11 : decode cX7_couldBe 11 = .ok (.ireturn, 1) := by decide +kernel
theorem dX7_bestQuestion_0 : decode cX7_bestQuestion 0 = .ok (.aload_n 0, 1) := by decide +kernel
theorem dX7_bestQuestion_1 : decode cX7_bestQuestion 1 = .ok (.iload_n 1, 1) := by decide +kernel
theorem dX7_bestQuestion_2 : decode cX7_bestQuestion 2 = .ok (.iload_n 2, 1) := by decide +kernel
theorem dX7_bestQuestion_3 : decode cX7_bestQuestion 3 = .ok (.iload_n 3, 1) := by decide +kernel
theorem dX7_bestQuestion_4 : decode cX7_bestQuestion 4 = .ok (.invokevirtual 34, 3) := by decide +kernel
theorem dX7_bestQuestion_7 : decode cX7_bestQuestion 7 = .ok (.aload_n 0, 1) := by decide +kernel
theorem dX7_bestQuestion_8 : decode cX7_bestQuestion 8 = .ok (.invokevirtual 49, 3) := by decide +kernel
theorem dX7_bestQuestion_11 : decode cX7_bestQuestion 11 = .ok (.pop, 1) := by decide +kernel
theorem dX7_bestQuestion_12 : decode cX7_bestQuestion 12 = .ok (.ldc 53, 2) := by decide +kernel
theorem dX7_bestQuestion_14 : decode cX7_bestQuestion 14 = .ok (.istore 4, 2) := by decide +kernel
theorem dX7_bestQuestion_16 : decode cX7_bestQuestion 16 = .ok (.bipush 8, 2) := by decide +kernel
theorem dX7_bestQuestion_18 : decode cX7_bestQuestion 18 = .ok (.istore 5, 2) := by decide +kernel
theorem dX7_bestQuestion_20 : decode cX7_bestQuestion 20 = .ok (.iconst 0, 1) := by decide +kernel
theorem dX7_bestQuestion_21 : decode cX7_bestQuestion 21 = .ok (.istore 6, 2) := by decide +kernel
theorem dX7_bestQuestion_23 : decode cX7_bestQuestion 23 = .ok (.iload 6, 2) := by decide +kernel
theorem dX7_bestQuestion_25 : decode cX7_bestQuestion 25 = .ok (.aload_n 0, 1) := by decide +kernel
theorem dX7_bestQuestion_26 : decode cX7_bestQuestion 26 = .ok (.getfield 54, 3) := by decide +kernel
theorem dX7_bestQuestion_29 : decode cX7_bestQuestion 29 = .ok (.if_icmp .ge 54, 3) := by decide +kernel
theorem dX7_bestQuestion_32 : decode cX7_bestQuestion 32 = .ok (.aload_n 0, 1) := by decide +kernel
theorem dX7_bestQuestion_33 : decode cX7_bestQuestion 33 = .ok (.getfield 24, 3) := by decide +kernel
theorem dX7_bestQuestion_36 : decode cX7_bestQuestion 36 = .ok (.iload 6, 2) := by decide +kernel
theorem dX7_bestQuestion_38 : decode cX7_bestQuestion 38 = .ok (.iaload, 1) := by decide +kernel
theorem dX7_bestQuestion_39 : decode cX7_bestQuestion 39 = .ok (.invokestatic 58, 3) := by decide +kernel
theorem dX7_bestQuestion_42 : decode cX7_bestQuestion 42 = .ok (.aload_n 0, 1) := by decide +kernel
theorem dX7_bestQuestion_43 : decode cX7_bestQuestion 43 = .ok (.getfield 27, 3) := by decide +kernel
theorem dX7_bestQuestion_46 : decode cX7_bestQuestion 46 = .ok (.iload 6, 2) := by decide +kernel
theorem dX7_bestQuestion_48 : decode cX7_bestQuestion 48 = .ok (.iaload, 1) := by decide +kernel
theorem dX7_bestQuestion_49 : decode cX7_bestQuestion 49 = .ok (.invokestatic 58, 3) := by decide +kernel
theorem dX7_bestQuestion_52 : decode cX7_bestQuestion 52 = .ok (.invokestatic 63, 3) := by decide +kernel
theorem dX7_bestQuestion_55 : decode cX7_bestQuestion 55 = .ok (.istore 7, 2) := by decide +kernel
theorem dX7_bestQuestion_57 : decode cX7_bestQuestion 57 = .ok (.iload 7, 2) := by decide +kernel
theorem dX7_bestQuestion_59 : decode cX7_bestQuestion 59 = .ok (.iload 5, 2) := by decide +kernel
theorem dX7_bestQuestion_61 : decode cX7_bestQuestion 61 = .ok (.if_icmp .ge 16, 3) := by decide +kernel
theorem dX7_bestQuestion_64 : decode cX7_bestQuestion 64 = .ok (.iload 7, 2) := by decide +kernel
theorem dX7_bestQuestion_66 : decode cX7_bestQuestion 66 = .ok (.istore 5, 2) := by decide +kernel
theorem dX7_bestQuestion_68 : decode cX7_bestQuestion 68 = .ok (.aload_n 0, 1) := by decide +kernel
theorem dX7_bestQuestion_69 : decode cX7_bestQuestion 69 = .ok (.getfield 21, 3) := by decide +kernel
theorem dX7_bestQuestion_72 : decode cX7_bestQuestion 72 = .ok (.iload 6, 2) := by decide +kernel
theorem dX7_bestQuestion_74 : decode cX7_bestQuestion 74 = .ok (.iaload, 1) := by decide +kernel
theorem dX7_bestQuestion_75 : decode cX7_bestQuestion 75 = .ok (.istore 4, 2) := by decide +kernel
theorem dX7_bestQuestion_77 : decode cX7_bestQuestion 77 = .ok (.iinc 6 1, 3) := by decide +kernel
theorem dX7_bestQuestion_80 : decode cX7_bestQuestion 80 = .ok (.goto (-57), 3) := by decide +kernel
theorem dX7_bestQuestion_83 : decode cX7_bestQuestion 83 = .ok (.iload 4, 2) := by decide +kernel
theorem dX7_bestQuestion_85 : decode cX7_bestQuestion 85 = .ok (.ireturn, 1) := by decide +kernel
theorem dX7_prepare_0 : decode cX7_prepare 0 = .ok (.iconst 0, 1) := by decide +kernel
theorem dX7_prepare_1 : decode cX7_prepare 1 = .ok (.istore 4, 2) := by decide +kernel
theorem dX7_prepare_3 : decode cX7_prepare 3 = .ok (.iload 4, 2) := by decide +kernel
theorem dX7_prepare_5 : decode cX7_prepare 5 = .ok (.aload_n 0, 1) := by decide +kernel
theorem dX7_prepare_6 : decode cX7_prepare 6 = .ok (.getfield 30, 3) := by decide +kernel
theorem dX7_prepare_9 : decode cX7_prepare 9 = .ok (.getfield 68, 3) := by decide +kernel
theorem dX7_prepare_12 : decode cX7_prepare 12 = .ok (.getfield 74, 3) := by decide +kernel
theorem dX7_prepare_15 : decode cX7_prepare 15 = .ok (.if_icmp .ge 44, 3) := by decide +kernel
theorem dX7_prepare_18 : decode cX7_prepare 18 = .ok (.aload_n 0, 1) := by decide +kernel
theorem dX7_prepare_19 : decode cX7_prepare 19 = .ok (.getfield 9, 3) := by decide +kernel
theorem dX7_prepare_22 : decode cX7_prepare 22 = .ok (.iload 4, 2) := by decide +kernel
theorem dX7_prepare_24 : decode cX7_prepare 24 = .ok (.aload_n 0, 1) := by decide +kernel
theorem dX7_prepare_25 : decode cX7_prepare 25 = .ok (.getfield 30, 3) := by decide +kernel
theorem dX7_prepare_28 : decode cX7_prepare 28 = .ok (.getfield 68, 3) := by decide +kernel
theorem dX7_prepare_31 : decode cX7_prepare 31 = .ok (.getfield 79, 3) := by decide +kernel
theorem dX7_prepare_34 : decode cX7_prepare 34 = .ok (.iload 4, 2) := by decide +kernel
theorem dX7_prepare_36 : decode cX7_prepare 36 = .ok (.iaload, 1) := by decide +kernel
theorem dX7_prepare_37 : decode cX7_prepare 37 = .ok (.iload_n 3, 1) := by decide +kernel
theorem dX7_prepare_38 : decode cX7_prepare 38 = .ok (.if_icmp .gt 13, 3) := by decide +kernel
theorem dX7_prepare_41 : decode cX7_prepare 41 = .ok (.aload_n 0, 1) := by decide +kernel
theorem dX7_prepare_42 : decode cX7_prepare 42 = .ok (.iload 4, 2) := by decide +kernel
theorem dX7_prepare_44 : decode cX7_prepare 44 = .ok (.iload_n 2, 1) := by decide +kernel
theorem dX7_prepare_45 : decode cX7_prepare 45 = .ok (.invokevirtual 82, 3) := by decide +kernel
theorem dX7_prepare_48 : decode cX7_prepare 48 = .ok (.goto 4, 3) := by decide +kernel
theorem dX7_prepare_51 : decode cX7_prepare 51 = .ok (.iconst (-1), 1) := by decide +kernel
theorem dX7_prepare_52 : decode cX7_prepare 52 = .ok (.iastore, 1) := by decide +kernel
theorem dX7_prepare_53 : decode cX7_prepare 53 = .ok (.iinc 4 1, 3) := by decide +kernel
theorem dX7_prepare_56 : decode cX7_prepare 56 = .ok (.goto (-53), 3) := by decide +kernel
theorem dX7_prepare_59 : decode cX7_prepare 59 = .ok (.aload_n 0, 1) := by decide +kernel
theorem dX7_prepare_60 : decode cX7_prepare 60 = .ok (.iconst 0, 1) := by decide +kernel
theorem dX7_prepare_61 : decode cX7_prepare 61 = .ok (.putfield 85, 3) := by decide +kernel
theorem dX7_prepare_64 : decode cX7_prepare 64 = .ok (.iload_n 1, 1) := by decide +kernel
theorem dX7_prepare_65 : decode cX7_prepare 65 = .ok (.istore 4, 2) := by decide +kernel
theorem dX7_prepare_67 : decode cX7_prepare 67 = .ok (.aload_n 0, 1) := by decide +kernel
theorem dX7_prepare_68 : decode cX7_prepare 68 = .ok (.getfield 85, 3) := by decide +kernel
theorem dX7_prepare_71 : decode cX7_prepare 71 = .ok (.bipush 10, 2) := by decide +kernel
theorem dX7_prepare_73 : decode cX7_prepare 73 = .ok (.if_icmp .ge 67, 3) := by decide +kernel
theorem dX7_prepare_76 : decode cX7_prepare 76 = .ok (.aload_n 0, 1) := by decide +kernel
theorem dX7_prepare_77 : decode cX7_prepare 77 = .ok (.getfield 30, 3) := by decide +kernel
theorem dX7_prepare_80 : decode cX7_prepare 80 = .ok (.getfield 88, 3) := by decide +kernel
theorem dX7_prepare_83 : decode cX7_prepare 83 = .ok (.iload 4, 2) := by decide +kernel
theorem dX7_prepare_85 : decode cX7_prepare 85 = .ok (.invokevirtual 92, 3) := by decide +kernel
theorem dX7_prepare_88 : decode cX7_prepare 88 = .ok (.ifCond .eq 52, 3) := by decide +kernel
theorem dX7_prepare_91 : decode cX7_prepare 91 = .ok (.aload_n 0, 1) := by decide +kernel
theorem dX7_prepare_92 : decode cX7_prepare 92 = .ok (.getfield 15, 3) := by decide +kernel
theorem dX7_prepare_95 : decode cX7_prepare 95 = .ok (.aload_n 0, 1) := by decide +kernel
theorem dX7_prepare_96 : decode cX7_prepare 96 = .ok (.getfield 85, 3) := by decide +kernel
theorem dX7_prepare_99 : decode cX7_prepare 99 = .ok (.iload 4, 2) := by decide +kernel
theorem dX7_prepare_101 : decode cX7_prepare 101 = .ok (.iastore, 1) := by decide +kernel
theorem dX7_prepare_102 : decode cX7_prepare 102 = .ok (.aload_n 0, 1) := by decide +kernel
theorem dX7_prepare_103 : decode cX7_prepare 103 = .ok (.getfield 18, 3) := by decide +kernel
theorem dX7_prepare_106 : decode cX7_prepare 106 = .ok (.aload_n 0, 1) := by decide +kernel
theorem dX7_prepare_107 : decode cX7_prepare 107 = .ok (.getfield 85, 3) := by decide +kernel
theorem dX7_prepare_110 : decode cX7_prepare 110 = .ok (.aload_n 0, 1) := by decide +kernel
theorem dX7_prepare_111 : decode cX7_prepare 111 = .ok (.iload 4, 2) := by decide +kernel
theorem dX7_prepare_113 : decode cX7_prepare 113 = .ok (.iload_n 2, 1) := by decide +kernel
theorem dX7_prepare_114 : decode cX7_prepare 114 = .ok (.invokevirtual 98, 3) := by decide +kernel
theorem dX7_prepare_117 : decode cX7_prepare 117 = .ok (.iastore, 1) := by decide +kernel
theorem dX7_prepare_118 : decode cX7_prepare 118 = .ok (.aload_n 0, 1) := by decide +kernel
theorem dX7_prepare_119 : decode cX7_prepare 119 = .ok (.dup, 1) := by decide +kernel
theorem dX7_prepare_120 : decode cX7_prepare 120 = .ok (.getfield 85, 3) := by decide +kernel
theorem dX7_prepare_123 : decode cX7_prepare 123 = .ok (.iconst 1, 1) := by decide +kernel
theorem dX7_prepare_124 : decode cX7_prepare 124 = .ok (.iadd, 1) := by decide +kernel
theorem dX7_prepare_125 : decode cX7_prepare 125 = .ok (.putfield 85, 3) := by decide +kernel
theorem dX7_prepare_128 : decode cX7_prepare 128 = .ok (.aload_n 0, 1) := by decide +kernel
theorem dX7_prepare_129 : decode cX7_prepare 129 = .ok (.iload 4, 2) := by decide +kernel
theorem dX7_prepare_131 : decode cX7_prepare 131 = .ok (.iload_n 2, 1) := by decide +kernel
theorem dX7_prepare_132 : decode cX7_prepare 132 = .ok (.invokevirtual 101, 3) := by decide +kernel
theorem dX7_prepare_135 : decode cX7_prepare 135 = .ok (.istore 4, 2) := by decide +kernel
theorem dX7_prepare_137 : decode cX7_prepare 137 = .ok (.goto (-70), 3) := by decide +kernel
theorem dX7_prepare_140 : decode cX7_prepare 140 = .ok (.return_, 1) := by decide +kernel
theorem dX7_gainByFact_0 : decode cX7_gainByFact 0 = .ok (.aload_n 0, 1) := by decide +kernel
theorem dX7_gainByFact_1 : decode cX7_gainByFact 1 = .ok (.getfield 30, 3) := by decide +kernel
theorem dX7_gainByFact_4 : decode cX7_gainByFact 4 = .ok (.getfield 68, 3) := by decide +kernel
theorem dX7_gainByFact_7 : decode cX7_gainByFact 7 = .ok (.getfield 104, 3) := by decide +kernel
theorem dX7_gainByFact_10 : decode cX7_gainByFact 10 = .ok (.iload_n 1, 1) := by decide +kernel
theorem dX7_gainByFact_11 : decode cX7_gainByFact 11 = .ok (.iaload, 1) := by decide +kernel
theorem dX7_gainByFact_12 : decode cX7_gainByFact 12 = .ok (.istore_n 3, 1) := by decide +kernel
theorem dX7_gainByFact_13 : decode cX7_gainByFact 13 = .ok (.aload_n 0, 1) := by decide +kernel
theorem dX7_gainByFact_14 : decode cX7_gainByFact 14 = .ok (.getfield 30, 3) := by decide +kernel
theorem dX7_gainByFact_17 : decode cX7_gainByFact 17 = .ok (.getfield 68, 3) := by decide +kernel
theorem dX7_gainByFact_20 : decode cX7_gainByFact 20 = .ok (.getfield 107, 3) := by decide +kernel
theorem dX7_gainByFact_23 : decode cX7_gainByFact 23 = .ok (.iload_n 1, 1) := by decide +kernel
theorem dX7_gainByFact_24 : decode cX7_gainByFact 24 = .ok (.iaload, 1) := by decide +kernel
theorem dX7_gainByFact_25 : decode cX7_gainByFact 25 = .ok (.istore 4, 2) := by decide +kernel
theorem dX7_gainByFact_27 : decode cX7_gainByFact 27 = .ok (.aload_n 0, 1) := by decide +kernel
theorem dX7_gainByFact_28 : decode cX7_gainByFact 28 = .ok (.getfield 30, 3) := by decide +kernel
theorem dX7_gainByFact_31 : decode cX7_gainByFact 31 = .ok (.getfield 68, 3) := by decide +kernel
theorem dX7_gainByFact_34 : decode cX7_gainByFact 34 = .ok (.getfield 110, 3) := by decide +kernel
theorem dX7_gainByFact_37 : decode cX7_gainByFact 37 = .ok (.iload_n 1, 1) := by decide +kernel
theorem dX7_gainByFact_38 : decode cX7_gainByFact 38 = .ok (.iaload, 1) := by decide +kernel
theorem dX7_gainByFact_39 : decode cX7_gainByFact 39 = .ok (.ifCond .ne 7, 3) := by decide +kernel
theorem dX7_gainByFact_42 : decode cX7_gainByFact 42 = .ok (.iconst 1, 1) := by decide +kernel
theorem dX7_gainByFact_43 : decode cX7_gainByFact 43 = .ok (.goto 4, 3) := by decide +kernel
theorem dX7_gainByFact_46 : decode cX7_gainByFact 46 = .ok (.iconst 0, 1) := by decide +kernel
theorem dX7_gainByFact_47 : decode cX7_gainByFact 47 = .ok (.istore 5, 2) := by decide +kernel
theorem dX7_gainByFact_49 : decode cX7_gainByFact 49 = .ok (.iload 5, 2) := by decide +kernel
theorem dX7_gainByFact_51 : decode cX7_gainByFact 51 = .ok (.ifCond .eq 8, 3) := by decide +kernel
theorem dX7_gainByFact_54 : decode cX7_gainByFact 54 = .ok (.iload 4, 2) := by decide +kernel
theorem dX7_gainByFact_56 : decode cX7_gainByFact 56 = .ok (.goto 4, 3) := by decide +kernel
theorem dX7_gainByFact_59 : decode cX7_gainByFact 59 = .ok (.iload_n 3, 1) := by decide +kernel
theorem dX7_gainByFact_60 : decode cX7_gainByFact 60 = .ok (.istore 6, 2) := by decide +kernel
theorem dX7_gainByFact_62 : decode cX7_gainByFact 62 = .ok (.iload 5, 2) := by decide +kernel
theorem dX7_gainByFact_64 : decode cX7_gainByFact 64 = .ok (.ifCond .eq 25, 3) := by decide +kernel
theorem dX7_gainByFact_67 : decode cX7_gainByFact 67 = .ok (.aload_n 0, 1) := by decide +kernel
theorem dX7_gainByFact_68 : decode cX7_gainByFact 68 = .ok (.getfield 30, 3) := by decide +kernel
theorem dX7_gainByFact_71 : decode cX7_gainByFact 71 = .ok (.getfield 113, 3) := by decide +kernel
theorem dX7_gainByFact_74 : decode cX7_gainByFact 74 = .ok (.iconst 1, 1) := by decide +kernel
theorem dX7_gainByFact_75 : decode cX7_gainByFact 75 = .ok (.iload 4, 2) := by decide +kernel
theorem dX7_gainByFact_77 : decode cX7_gainByFact 77 = .ok (.iload 4, 2) := by decide +kernel
theorem dX7_gainByFact_79 : decode cX7_gainByFact 79 = .ok (.iload_n 3, 1) := by decide +kernel
theorem dX7_gainByFact_80 : decode cX7_gainByFact 80 = .ok (.isub, 1) := by decide +kernel
theorem dX7_gainByFact_81 : decode cX7_gainByFact 81 = .ok (.iconst 1, 1) := by decide +kernel
theorem dX7_gainByFact_82 : decode cX7_gainByFact 82 = .ok (.iadd, 1) := by decide +kernel
theorem dX7_gainByFact_83 : decode cX7_gainByFact 83 = .ok (.invokevirtual 117, 3) := by decide +kernel
theorem dX7_gainByFact_86 : decode cX7_gainByFact 86 = .ok (.goto 27, 3) := by decide +kernel
theorem dX7_gainByFact_89 : decode cX7_gainByFact 89 = .ok (.aload_n 0, 1) := by decide +kernel
theorem dX7_gainByFact_90 : decode cX7_gainByFact 90 = .ok (.getfield 30, 3) := by decide +kernel
theorem dX7_gainByFact_93 : decode cX7_gainByFact 93 = .ok (.getfield 113, 3) := by decide +kernel
theorem dX7_gainByFact_96 : decode cX7_gainByFact 96 = .ok (.iconst 2, 1) := by decide +kernel
theorem dX7_gainByFact_97 : decode cX7_gainByFact 97 = .ok (.iload_n 3, 1) := by decide +kernel
theorem dX7_gainByFact_98 : decode cX7_gainByFact 98 = .ok (.aload_n 0, 1) := by decide +kernel
theorem dX7_gainByFact_99 : decode cX7_gainByFact 99 = .ok (.getfield 30, 3) := by decide +kernel
theorem dX7_gainByFact_102 : decode cX7_gainByFact 102 = .ok (.getfield 68, 3) := by decide +kernel
theorem dX7_gainByFact_105 : decode cX7_gainByFact 105 = .ok (.getfield 123, 3) := by decide +kernel
theorem dX7_gainByFact_108 : decode cX7_gainByFact 108 = .ok (.iload_n 1, 1) := by decide +kernel
theorem dX7_gainByFact_109 : decode cX7_gainByFact 109 = .ok (.iaload, 1) := by decide +kernel
theorem dX7_gainByFact_110 : decode cX7_gainByFact 110 = .ok (.invokevirtual 117, 3) := by decide +kernel
theorem dX7_gainByFact_113 : decode cX7_gainByFact 113 = .ok (.istore 7, 2) := by decide +kernel
theorem dX7_gainByFact_115 : decode cX7_gainByFact 115 = .ok (.iload 7, 2) := by decide +kernel
theorem dX7_gainByFact_117 : decode cX7_gainByFact 117 = .ok (.ifCond .eq 14, 3) := by decide +kernel
theorem dX7_gainByFact_120 : decode cX7_gainByFact 120 = .ok (.iload 6, 2) := by decide +kernel
theorem dX7_gainByFact_122 : decode cX7_gainByFact 122 = .ok (.iload_n 2, 1) := by decide +kernel
theorem dX7_gainByFact_123 : decode cX7_gainByFact 123 = .ok (.if_icmp .gt 8, 3) := by decide +kernel
theorem dX7_gainByFact_126 : decode cX7_gainByFact 126 = .ok (.iload 6, 2) := by decide +kernel
theorem dX7_gainByFact_128 : decode cX7_gainByFact 128 = .ok (.goto 4, 3) := by decide +kernel
theorem dX7_gainByFact_131 : decode cX7_gainByFact 131 = .ok (.iconst (-1), 1) := by decide +kernel
theorem dX7_gainByFact_132 : decode cX7_gainByFact 132 = .ok (.ireturn, 1) := by decide +kernel
theorem dX7_gainByBirth_0 : decode cX7_gainByBirth 0 = .ok (.aload_n 0, 1) := by decide +kernel
theorem dX7_gainByBirth_1 : decode cX7_gainByBirth 1 = .ok (.getfield 30, 3) := by decide +kernel
theorem dX7_gainByBirth_4 : decode cX7_gainByBirth 4 = .ok (.getfield 88, 3) := by decide +kernel
theorem dX7_gainByBirth_7 : decode cX7_gainByBirth 7 = .ok (.getfield 126, 3) := by decide +kernel
theorem dX7_gainByBirth_10 : decode cX7_gainByBirth 10 = .ok (.iload_n 1, 1) := by decide +kernel
theorem dX7_gainByBirth_11 : decode cX7_gainByBirth 11 = .ok (.iaload, 1) := by decide +kernel
theorem dX7_gainByBirth_12 : decode cX7_gainByBirth 12 = .ok (.istore_n 3, 1) := by decide +kernel
theorem dX7_gainByBirth_13 : decode cX7_gainByBirth 13 = .ok (.iload_n 3, 1) := by decide +kernel
theorem dX7_gainByBirth_14 : decode cX7_gainByBirth 14 = .ok (.iload_n 2, 1) := by decide +kernel
theorem dX7_gainByBirth_15 : decode cX7_gainByBirth 15 = .ok (.if_icmp .gt 22, 3) := by decide +kernel
theorem dX7_gainByBirth_18 : decode cX7_gainByBirth 18 = .ok (.aload_n 0, 1) := by decide +kernel
theorem dX7_gainByBirth_19 : decode cX7_gainByBirth 19 = .ok (.getfield 30, 3) := by decide +kernel
theorem dX7_gainByBirth_22 : decode cX7_gainByBirth 22 = .ok (.getfield 113, 3) := by decide +kernel
theorem dX7_gainByBirth_25 : decode cX7_gainByBirth 25 = .ok (.iconst 0, 1) := by decide +kernel
theorem dX7_gainByBirth_26 : decode cX7_gainByBirth 26 = .ok (.iload_n 3, 1) := by decide +kernel
theorem dX7_gainByBirth_27 : decode cX7_gainByBirth 27 = .ok (.invokevirtual 129, 3) := by decide +kernel
theorem dX7_gainByBirth_30 : decode cX7_gainByBirth 30 = .ok (.ifCond .eq 7, 3) := by decide +kernel
theorem dX7_gainByBirth_33 : decode cX7_gainByBirth 33 = .ok (.iload_n 3, 1) := by decide +kernel
theorem dX7_gainByBirth_34 : decode cX7_gainByBirth 34 = .ok (.goto 4, 3) := by decide +kernel
theorem dX7_gainByBirth_37 : decode cX7_gainByBirth 37 = .ok (.iconst (-1), 1) := by decide +kernel
theorem dX7_gainByBirth_38 : decode cX7_gainByBirth 38 = .ok (.ireturn, 1) := by decide +kernel
theorem dX7_leaderOf_0 : decode cX7_leaderOf 0 = .ok (.aload_n 0, 1) := by decide +kernel
theorem dX7_leaderOf_1 : decode cX7_leaderOf 1 = .ok (.getfield 30, 3) := by decide +kernel
theorem dX7_leaderOf_4 : decode cX7_leaderOf 4 = .ok (.getfield 88, 3) := by decide +kernel
theorem dX7_leaderOf_7 : decode cX7_leaderOf 7 = .ok (.getfield 126, 3) := by decide +kernel
theorem dX7_leaderOf_10 : decode cX7_leaderOf 10 = .ok (.iload_n 1, 1) := by decide +kernel
theorem dX7_leaderOf_11 : decode cX7_leaderOf 11 = .ok (.iaload, 1) := by decide +kernel
theorem dX7_leaderOf_12 : decode cX7_leaderOf 12 = .ok (.istore_n 3, 1) := by decide +kernel
theorem dX7_leaderOf_13 : decode cX7_leaderOf 13 = .ok (.aload_n 0, 1) := by decide +kernel
theorem dX7_leaderOf_14 : decode cX7_leaderOf 14 = .ok (.getfield 30, 3) := by decide +kernel
theorem dX7_leaderOf_17 : decode cX7_leaderOf 17 = .ok (.getfield 88, 3) := by decide +kernel
theorem dX7_leaderOf_20 : decode cX7_leaderOf 20 = .ok (.getfield 133, 3) := by decide +kernel
theorem dX7_leaderOf_23 : decode cX7_leaderOf 23 = .ok (.iload_n 1, 1) := by decide +kernel
theorem dX7_leaderOf_24 : decode cX7_leaderOf 24 = .ok (.iaload, 1) := by decide +kernel
theorem dX7_leaderOf_25 : decode cX7_leaderOf 25 = .ok (.istore 4, 2) := by decide +kernel
theorem dX7_leaderOf_27 : decode cX7_leaderOf 27 = .ok (.iconst 0, 1) := by decide +kernel
theorem dX7_leaderOf_28 : decode cX7_leaderOf 28 = .ok (.istore 5, 2) := by decide +kernel
theorem dX7_leaderOf_30 : decode cX7_leaderOf 30 = .ok (.aload_n 0, 1) := by decide +kernel
theorem dX7_leaderOf_31 : decode cX7_leaderOf 31 = .ok (.getfield 30, 3) := by decide +kernel
theorem dX7_leaderOf_34 : decode cX7_leaderOf 34 = .ok (.getfield 88, 3) := by decide +kernel
theorem dX7_leaderOf_37 : decode cX7_leaderOf 37 = .ok (.getfield 136, 3) := by decide +kernel
theorem dX7_leaderOf_40 : decode cX7_leaderOf 40 = .ok (.iload_n 1, 1) := by decide +kernel
theorem dX7_leaderOf_41 : decode cX7_leaderOf 41 = .ok (.iaload, 1) := by decide +kernel
theorem dX7_leaderOf_42 : decode cX7_leaderOf 42 = .ok (.iconst 1, 1) := by decide +kernel
theorem dX7_leaderOf_43 : decode cX7_leaderOf 43 = .ok (.if_icmp .ne 35, 3) := by decide +kernel
theorem dX7_leaderOf_46 : decode cX7_leaderOf 46 = .ok (.iload 4, 2) := by decide +kernel
theorem dX7_leaderOf_48 : decode cX7_leaderOf 48 = .ok (.iload_n 2, 1) := by decide +kernel
theorem dX7_leaderOf_49 : decode cX7_leaderOf 49 = .ok (.if_icmp .gt 23, 3) := by decide +kernel
theorem dX7_leaderOf_52 : decode cX7_leaderOf 52 = .ok (.aload_n 0, 1) := by decide +kernel
theorem dX7_leaderOf_53 : decode cX7_leaderOf 53 = .ok (.getfield 30, 3) := by decide +kernel
theorem dX7_leaderOf_56 : decode cX7_leaderOf 56 = .ok (.getfield 113, 3) := by decide +kernel
theorem dX7_leaderOf_59 : decode cX7_leaderOf 59 = .ok (.iconst 3, 1) := by decide +kernel
theorem dX7_leaderOf_60 : decode cX7_leaderOf 60 = .ok (.iload 4, 2) := by decide +kernel
theorem dX7_leaderOf_62 : decode cX7_leaderOf 62 = .ok (.invokevirtual 129, 3) := by decide +kernel
theorem dX7_leaderOf_65 : decode cX7_leaderOf 65 = .ok (.ifCond .eq 7, 3) := by decide +kernel
theorem dX7_leaderOf_68 : decode cX7_leaderOf 68 = .ok (.iconst 1, 1) := by decide +kernel
theorem dX7_leaderOf_69 : decode cX7_leaderOf 69 = .ok (.goto 4, 3) := by decide +kernel
theorem dX7_leaderOf_72 : decode cX7_leaderOf 72 = .ok (.iconst 0, 1) := by decide +kernel
theorem dX7_leaderOf_73 : decode cX7_leaderOf 73 = .ok (.istore 5, 2) := by decide +kernel
theorem dX7_leaderOf_75 : decode cX7_leaderOf 75 = .ok (.goto 49, 3) := by decide +kernel
theorem dX7_leaderOf_78 : decode cX7_leaderOf 78 = .ok (.aload_n 0, 1) := by decide +kernel
theorem dX7_leaderOf_79 : decode cX7_leaderOf 79 = .ok (.getfield 30, 3) := by decide +kernel
theorem dX7_leaderOf_82 : decode cX7_leaderOf 82 = .ok (.getfield 88, 3) := by decide +kernel
theorem dX7_leaderOf_85 : decode cX7_leaderOf 85 = .ok (.getfield 136, 3) := by decide +kernel
theorem dX7_leaderOf_88 : decode cX7_leaderOf 88 = .ok (.iload_n 1, 1) := by decide +kernel
theorem dX7_leaderOf_89 : decode cX7_leaderOf 89 = .ok (.iaload, 1) := by decide +kernel
theorem dX7_leaderOf_90 : decode cX7_leaderOf 90 = .ok (.iconst 2, 1) := by decide +kernel
theorem dX7_leaderOf_91 : decode cX7_leaderOf 91 = .ok (.if_icmp .ne 33, 3) := by decide +kernel
theorem dX7_leaderOf_94 : decode cX7_leaderOf 94 = .ok (.iload_n 3, 1) := by decide +kernel
theorem dX7_leaderOf_95 : decode cX7_leaderOf 95 = .ok (.iload_n 2, 1) := by decide +kernel
theorem dX7_leaderOf_96 : decode cX7_leaderOf 96 = .ok (.if_icmp .gt 25, 3) := by decide +kernel
theorem dX7_leaderOf_99 : decode cX7_leaderOf 99 = .ok (.aload_n 0, 1) := by decide +kernel
theorem dX7_leaderOf_100 : decode cX7_leaderOf 100 = .ok (.getfield 30, 3) := by decide +kernel
theorem dX7_leaderOf_103 : decode cX7_leaderOf 103 = .ok (.getfield 113, 3) := by decide +kernel
theorem dX7_leaderOf_106 : decode cX7_leaderOf 106 = .ok (.iconst 4, 1) := by decide +kernel
theorem dX7_leaderOf_107 : decode cX7_leaderOf 107 = .ok (.iload_n 3, 1) := by decide +kernel
theorem dX7_leaderOf_108 : decode cX7_leaderOf 108 = .ok (.iload_n 2, 1) := by decide +kernel
theorem dX7_leaderOf_109 : decode cX7_leaderOf 109 = .ok (.iload_n 3, 1) := by decide +kernel
theorem dX7_leaderOf_110 : decode cX7_leaderOf 110 = .ok (.isub, 1) := by decide +kernel
theorem dX7_leaderOf_111 : decode cX7_leaderOf 111 = .ok (.invokevirtual 137, 3) := by decide +kernel
theorem dX7_leaderOf_114 : decode cX7_leaderOf 114 = .ok (.ifCond .eq 7, 3) := by decide +kernel
theorem dX7_leaderOf_117 : decode cX7_leaderOf 117 = .ok (.iconst 1, 1) := by decide +kernel
theorem dX7_leaderOf_118 : decode cX7_leaderOf 118 = .ok (.goto 4, 3) := by decide +kernel
theorem dX7_leaderOf_121 : decode cX7_leaderOf 121 = .ok (.iconst 0, 1) := by decide +kernel
theorem dX7_leaderOf_122 : decode cX7_leaderOf 122 = .ok (.istore 5, 2) := by decide +kernel
theorem dX7_leaderOf_124 : decode cX7_leaderOf 124 = .ok (.iload 5, 2) := by decide +kernel
theorem dX7_leaderOf_126 : decode cX7_leaderOf 126 = .ok (.ifCond .eq 18, 3) := by decide +kernel
theorem dX7_leaderOf_129 : decode cX7_leaderOf 129 = .ok (.aload_n 0, 1) := by decide +kernel
theorem dX7_leaderOf_130 : decode cX7_leaderOf 130 = .ok (.getfield 30, 3) := by decide +kernel
theorem dX7_leaderOf_133 : decode cX7_leaderOf 133 = .ok (.getfield 88, 3) := by decide +kernel
theorem dX7_leaderOf_136 : decode cX7_leaderOf 136 = .ok (.getfield 140, 3) := by decide +kernel
theorem dX7_leaderOf_139 : decode cX7_leaderOf 139 = .ok (.iload_n 1, 1) := by decide +kernel
theorem dX7_leaderOf_140 : decode cX7_leaderOf 140 = .ok (.iaload, 1) := by decide +kernel
theorem dX7_leaderOf_141 : decode cX7_leaderOf 141 = .ok (.goto 4, 3) := by decide +kernel
theorem dX7_leaderOf_144 : decode cX7_leaderOf 144 = .ok (.iconst (-1), 1) := by decide +kernel
theorem dX7_leaderOf_145 : decode cX7_leaderOf 145 = .ok (.ireturn, 1) := by decide +kernel
theorem dX7_ownParish_0 : decode cX7_ownParish 0 = .ok (.aload_n 0, 1) := by decide +kernel
theorem dX7_ownParish_1 : decode cX7_ownParish 1 = .ok (.getfield 15, 3) := by decide +kernel
theorem dX7_ownParish_4 : decode cX7_ownParish 4 = .ok (.iload_n 1, 1) := by decide +kernel
theorem dX7_ownParish_5 : decode cX7_ownParish 5 = .ok (.iaload, 1) := by decide +kernel
theorem dX7_ownParish_6 : decode cX7_ownParish 6 = .ok (.istore_n 3, 1) := by decide +kernel
theorem dX7_ownParish_7 : decode cX7_ownParish 7 = .ok (.aload_n 0, 1) := by decide +kernel
theorem dX7_ownParish_8 : decode cX7_ownParish 8 = .ok (.getfield 18, 3) := by decide +kernel
theorem dX7_ownParish_11 : decode cX7_ownParish 11 = .ok (.iload_n 1, 1) := by decide +kernel
theorem dX7_ownParish_12 : decode cX7_ownParish 12 = .ok (.iaload, 1) := by decide +kernel
theorem dX7_ownParish_13 : decode cX7_ownParish 13 = .ok (.istore 4, 2) := by decide +kernel
theorem dX7_ownParish_15 : decode cX7_ownParish 15 = .ok (.iload 4, 2) := by decide +kernel
theorem dX7_ownParish_17 : decode cX7_ownParish 17 = .ok (.iconst (-1), 1) := by decide +kernel
theorem dX7_ownParish_18 : decode cX7_ownParish 18 = .ok (.if_icmp .ne 7, 3) := by decide +kernel
theorem dX7_ownParish_21 : decode cX7_ownParish 21 = .ok (.iconst (-1), 1) := by decide +kernel
theorem dX7_ownParish_22 : decode cX7_ownParish 22 = .ok (.goto 15, 3) := by decide +kernel
theorem dX7_ownParish_25 : decode cX7_ownParish 25 = .ok (.aload_n 0, 1) := by decide +kernel
theorem dX7_ownParish_26 : decode cX7_ownParish 26 = .ok (.getfield 30, 3) := by decide +kernel
theorem dX7_ownParish_29 : decode cX7_ownParish 29 = .ok (.getfield 88, 3) := by decide +kernel
theorem dX7_ownParish_32 : decode cX7_ownParish 32 = .ok (.getfield 143, 3) := by decide +kernel
theorem dX7_ownParish_35 : decode cX7_ownParish 35 = .ok (.iload_n 3, 1) := by decide +kernel
theorem dX7_ownParish_36 : decode cX7_ownParish 36 = .ok (.iaload, 1) := by decide +kernel
theorem dX7_ownParish_37 : decode cX7_ownParish 37 = .ok (.istore 5, 2) := by decide +kernel
theorem dX7_ownParish_39 : decode cX7_ownParish 39 = .ok (.iconst 0, 1) := by decide +kernel
theorem dX7_ownParish_40 : decode cX7_ownParish 40 = .ok (.istore 6, 2) := by decide +kernel
theorem dX7_ownParish_42 : decode cX7_ownParish 42 = .ok (.iload 6, 2) := by decide +kernel
theorem dX7_ownParish_44 : decode cX7_ownParish 44 = .ok (.aload_n 0, 1) := by decide +kernel
theorem dX7_ownParish_45 : decode cX7_ownParish 45 = .ok (.getfield 30, 3) := by decide +kernel
theorem dX7_ownParish_48 : decode cX7_ownParish 48 = .ok (.getfield 68, 3) := by decide +kernel
theorem dX7_ownParish_51 : decode cX7_ownParish 51 = .ok (.getfield 74, 3) := by decide +kernel
theorem dX7_ownParish_54 : decode cX7_ownParish 54 = .ok (.if_icmp .ge 94, 3) := by decide +kernel
theorem dX7_ownParish_57 : decode cX7_ownParish 57 = .ok (.aload_n 0, 1) := by decide +kernel
theorem dX7_ownParish_58 : decode cX7_ownParish 58 = .ok (.getfield 30, 3) := by decide +kernel
theorem dX7_ownParish_61 : decode cX7_ownParish 61 = .ok (.getfield 68, 3) := by decide +kernel
theorem dX7_ownParish_64 : decode cX7_ownParish 64 = .ok (.getfield 146, 3) := by decide +kernel
theorem dX7_ownParish_67 : decode cX7_ownParish 67 = .ok (.iload 6, 2) := by decide +kernel
theorem dX7_ownParish_69 : decode cX7_ownParish 69 = .ok (.iaload, 1) := by decide +kernel
theorem dX7_ownParish_70 : decode cX7_ownParish 70 = .ok (.iload_n 3, 1) := by decide +kernel
theorem dX7_ownParish_71 : decode cX7_ownParish 71 = .ok (.if_icmp .ne 16, 3) := by decide +kernel
theorem dX7_ownParish_74 : decode cX7_ownParish 74 = .ok (.iload_n 2, 1) := by decide +kernel
theorem dX7_ownParish_75 : decode cX7_ownParish 75 = .ok (.iload 6, 2) := by decide +kernel
theorem dX7_ownParish_77 : decode cX7_ownParish 77 = .ok (.ishr, 1) := by decide +kernel
theorem dX7_ownParish_78 : decode cX7_ownParish 78 = .ok (.iconst 1, 1) := by decide +kernel
theorem dX7_ownParish_79 : decode cX7_ownParish 79 = .ok (.iand, 1) := by decide +kernel
theorem dX7_ownParish_80 : decode cX7_ownParish 80 = .ok (.ifCond .ne 7, 3) := by decide +kernel
theorem dX7_ownParish_83 : decode cX7_ownParish 83 = .ok (.iconst 1, 1) := by decide +kernel
theorem dX7_ownParish_84 : decode cX7_ownParish 84 = .ok (.goto 4, 3) := by decide +kernel
theorem dX7_ownParish_87 : decode cX7_ownParish 87 = .ok (.iconst 0, 1) := by decide +kernel
theorem dX7_ownParish_88 : decode cX7_ownParish 88 = .ok (.istore 7, 2) := by decide +kernel
theorem dX7_ownParish_90 : decode cX7_ownParish 90 = .ok (.iload 7, 2) := by decide +kernel
theorem dX7_ownParish_92 : decode cX7_ownParish 92 = .ok (.ifCond .eq 50, 3) := by decide +kernel
theorem dX7_ownParish_95 : decode cX7_ownParish 95 = .ok (.aload_n 0, 1) := by decide +kernel
theorem dX7_ownParish_96 : decode cX7_ownParish 96 = .ok (.getfield 9, 3) := by decide +kernel
theorem dX7_ownParish_99 : decode cX7_ownParish 99 = .ok (.iload 6, 2) := by decide +kernel
theorem dX7_ownParish_101 : decode cX7_ownParish 101 = .ok (.iaload, 1) := by decide +kernel
theorem dX7_ownParish_102 : decode cX7_ownParish 102 = .ok (.iconst (-1), 1) := by decide +kernel
theorem dX7_ownParish_103 : decode cX7_ownParish 103 = .ok (.if_icmp .eq 39, 3) := by decide +kernel
theorem dX7_ownParish_106 : decode cX7_ownParish 106 = .ok (.aload_n 0, 1) := by decide +kernel
theorem dX7_ownParish_107 : decode cX7_ownParish 107 = .ok (.getfield 9, 3) := by decide +kernel
theorem dX7_ownParish_110 : decode cX7_ownParish 110 = .ok (.iload 6, 2) := by decide +kernel
theorem dX7_ownParish_112 : decode cX7_ownParish 112 = .ok (.iaload, 1) := by decide +kernel
theorem dX7_ownParish_113 : decode cX7_ownParish 113 = .ok (.iload 4, 2) := by decide +kernel
theorem dX7_ownParish_115 : decode cX7_ownParish 115 = .ok (.if_icmp .lt 27, 3) := by decide +kernel
theorem dX7_ownParish_118 : decode cX7_ownParish 118 = .ok (.aload_n 0, 1) := by decide +kernel
theorem dX7_ownParish_119 : decode cX7_ownParish 119 = .ok (.getfield 30, 3) := by decide +kernel
theorem dX7_ownParish_122 : decode cX7_ownParish 122 = .ok (.getfield 68, 3) := by decide +kernel
theorem dX7_ownParish_125 : decode cX7_ownParish 125 = .ok (.getfield 149, 3) := by decide +kernel
theorem dX7_ownParish_128 : decode cX7_ownParish 128 = .ok (.iload 6, 2) := by decide +kernel
theorem dX7_ownParish_130 : decode cX7_ownParish 130 = .ok (.iaload, 1) := by decide +kernel
theorem dX7_ownParish_131 : decode cX7_ownParish 131 = .ok (.istore 5, 2) := by decide +kernel
theorem dX7_ownParish_133 : decode cX7_ownParish 133 = .ok (.aload_n 0, 1) := by decide +kernel
theorem dX7_ownParish_134 : decode cX7_ownParish 134 = .ok (.getfield 9, 3) := by decide +kernel
theorem dX7_ownParish_137 : decode cX7_ownParish 137 = .ok (.iload 6, 2) := by decide +kernel
theorem dX7_ownParish_139 : decode cX7_ownParish 139 = .ok (.iaload, 1) := by decide +kernel
theorem dX7_ownParish_140 : decode cX7_ownParish 140 = .ok (.istore 4, 2) := by decide +kernel
theorem dX7_ownParish_142 : decode cX7_ownParish 142 = .ok (.iinc 6 1, 3) := by decide +kernel
theorem dX7_ownParish_145 : decode cX7_ownParish 145 = .ok (.goto (-103), 3) := by decide +kernel
theorem dX7_ownParish_148 : decode cX7_ownParish 148 = .ok (.iload 5, 2) := by decide +kernel
theorem dX7_ownParish_150 : decode cX7_ownParish 150 = .ok (.ireturn, 1) := by decide +kernel
theorem dX7_teller_0 : decode cX7_teller 0 = .ok (.aload_n 0, 1) := by decide +kernel
theorem dX7_teller_1 : decode cX7_teller 1 = .ok (.getfield 85, 3) := by decide +kernel
theorem dX7_teller_4 : decode cX7_teller 4 = .ok (.iconst 1, 1) := by decide +kernel
theorem dX7_teller_5 : decode cX7_teller 5 = .ok (.isub, 1) := by decide +kernel
theorem dX7_teller_6 : decode cX7_teller 6 = .ok (.istore_n 2, 1) := by decide +kernel
theorem dX7_teller_7 : decode cX7_teller 7 = .ok (.iload_n 2, 1) := by decide +kernel
theorem dX7_teller_8 : decode cX7_teller 8 = .ok (.ifCond .le 21, 3) := by decide +kernel
theorem dX7_teller_11 : decode cX7_teller 11 = .ok (.aload_n 0, 1) := by decide +kernel
theorem dX7_teller_12 : decode cX7_teller 12 = .ok (.iload_n 2, 1) := by decide +kernel
theorem dX7_teller_13 : decode cX7_teller 13 = .ok (.iload_n 1, 1) := by decide +kernel
theorem dX7_teller_14 : decode cX7_teller 14 = .ok (.invokevirtual 38, 3) := by decide +kernel
theorem dX7_teller_17 : decode cX7_teller 17 = .ok (.iconst (-1), 1) := by decide +kernel
theorem dX7_teller_18 : decode cX7_teller 18 = .ok (.if_icmp .eq 5, 3) := by decide +kernel
theorem dX7_teller_21 : decode cX7_teller 21 = .ok (.iload_n 2, 1) := by decide +kernel
theorem dX7_teller_22 : decode cX7_teller 22 = .ok (.ireturn, 1) := by decide +kernel
theorem dX7_teller_23 : decode cX7_teller 23 = .ok (.iinc 2 (-1), 3) := by decide +kernel
theorem dX7_teller_26 : decode cX7_teller 26 = .ok (.goto (-19), 3) := by decide +kernel
theorem dX7_teller_29 : decode cX7_teller 29 = .ok (.iconst 0, 1) := by decide +kernel
theorem dX7_teller_30 : decode cX7_teller 30 = .ok (.ireturn, 1) := by decide +kernel
theorem dX7_settledParish_0 : decode cX7_settledParish 0 = .ok (.aload_n 0, 1) := by decide +kernel
theorem dX7_settledParish_1 : decode cX7_settledParish 1 = .ok (.aload_n 0, 1) := by decide +kernel
theorem dX7_settledParish_2 : decode cX7_settledParish 2 = .ok (.iload_n 1, 1) := by decide +kernel
theorem dX7_settledParish_3 : decode cX7_settledParish 3 = .ok (.invokevirtual 46, 3) := by decide +kernel
theorem dX7_settledParish_6 : decode cX7_settledParish 6 = .ok (.iload_n 1, 1) := by decide +kernel
theorem dX7_settledParish_7 : decode cX7_settledParish 7 = .ok (.invokevirtual 38, 3) := by decide +kernel
theorem dX7_settledParish_10 : decode cX7_settledParish 10 = .ok (.ireturn, 1) := by decide +kernel
theorem dX7_tryAllWays_0 : decode cX7_tryAllWays 0 = .ok (.aload_n 0, 1) := by decide +kernel
theorem dX7_tryAllWays_1 : decode cX7_tryAllWays 1 = .ok (.invokevirtual 152, 3) := by decide +kernel
theorem dX7_tryAllWays_4 : decode cX7_tryAllWays 4 = .ok (.iconst 0, 1) := by decide +kernel
theorem dX7_tryAllWays_5 : decode cX7_tryAllWays 5 = .ok (.istore_n 1, 1) := by decide +kernel
theorem dX7_tryAllWays_6 : decode cX7_tryAllWays 6 = .ok (.iconst 0, 1) := by decide +kernel
theorem dX7_tryAllWays_7 : decode cX7_tryAllWays 7 = .ok (.istore_n 2, 1) := by decide +kernel
theorem dX7_tryAllWays_8 : decode cX7_tryAllWays 8 = .ok (.iload_n 2, 1) := by decide +kernel
theorem dX7_tryAllWays_9 : decode cX7_tryAllWays 9 = .ok (.iconst 1, 1) := by decide +kernel
theorem dX7_tryAllWays_10 : decode cX7_tryAllWays 10 = .ok (.aload_n 0, 1) := by decide +kernel
theorem dX7_tryAllWays_11 : decode cX7_tryAllWays 11 = .ok (.getfield 54, 3) := by decide +kernel
theorem dX7_tryAllWays_14 : decode cX7_tryAllWays 14 = .ok (.ishl, 1) := by decide +kernel
theorem dX7_tryAllWays_15 : decode cX7_tryAllWays 15 = .ok (.if_icmp .ge 93, 3) := by decide +kernel
theorem dX7_tryAllWays_18 : decode cX7_tryAllWays 18 = .ok (.aload_n 0, 1) := by decide +kernel
theorem dX7_tryAllWays_19 : decode cX7_tryAllWays 19 = .ok (.aload_n 0, 1) := by decide +kernel
theorem dX7_tryAllWays_20 : decode cX7_tryAllWays 20 = .ok (.iload_n 2, 1) := by decide +kernel
theorem dX7_tryAllWays_21 : decode cX7_tryAllWays 21 = .ok (.invokevirtual 155, 3) := by decide +kernel
theorem dX7_tryAllWays_24 : decode cX7_tryAllWays 24 = .ok (.invokevirtual 42, 3) := by decide +kernel
theorem dX7_tryAllWays_27 : decode cX7_tryAllWays 27 = .ok (.istore_n 3, 1) := by decide +kernel
theorem dX7_tryAllWays_28 : decode cX7_tryAllWays 28 = .ok (.iconst 1, 1) := by decide +kernel
theorem dX7_tryAllWays_29 : decode cX7_tryAllWays 29 = .ok (.iload_n 3, 1) := by decide +kernel
theorem dX7_tryAllWays_30 : decode cX7_tryAllWays 30 = .ok (.iconst (-1), 1) := by decide +kernel
theorem dX7_tryAllWays_31 : decode cX7_tryAllWays 31 = .ok (.if_icmp .ne 8, 3) := by decide +kernel
theorem dX7_tryAllWays_34 : decode cX7_tryAllWays 34 = .ok (.bipush 6, 2) := by decide +kernel
theorem dX7_tryAllWays_36 : decode cX7_tryAllWays 36 = .ok (.goto 4, 3) := by decide +kernel
theorem dX7_tryAllWays_39 : decode cX7_tryAllWays 39 = .ok (.iload_n 3, 1) := by decide +kernel
theorem dX7_tryAllWays_40 : decode cX7_tryAllWays 40 = .ok (.ishl, 1) := by decide +kernel
theorem dX7_tryAllWays_41 : decode cX7_tryAllWays 41 = .ok (.istore 4, 2) := by decide +kernel
theorem dX7_tryAllWays_43 : decode cX7_tryAllWays 43 = .ok (.iload_n 1, 1) := by decide +kernel
theorem dX7_tryAllWays_44 : decode cX7_tryAllWays 44 = .ok (.iload 4, 2) := by decide +kernel
theorem dX7_tryAllWays_46 : decode cX7_tryAllWays 46 = .ok (.ior, 1) := by decide +kernel
theorem dX7_tryAllWays_47 : decode cX7_tryAllWays 47 = .ok (.istore_n 1, 1) := by decide +kernel
theorem dX7_tryAllWays_48 : decode cX7_tryAllWays 48 = .ok (.iconst 0, 1) := by decide +kernel
theorem dX7_tryAllWays_49 : decode cX7_tryAllWays 49 = .ok (.istore 5, 2) := by decide +kernel
theorem dX7_tryAllWays_51 : decode cX7_tryAllWays 51 = .ok (.iload 5, 2) := by decide +kernel
theorem dX7_tryAllWays_53 : decode cX7_tryAllWays 53 = .ok (.aload_n 0, 1) := by decide +kernel
theorem dX7_tryAllWays_54 : decode cX7_tryAllWays 54 = .ok (.getfield 54, 3) := by decide +kernel
theorem dX7_tryAllWays_57 : decode cX7_tryAllWays 57 = .ok (.if_icmp .ge 45, 3) := by decide +kernel
theorem dX7_tryAllWays_60 : decode cX7_tryAllWays 60 = .ok (.iload_n 2, 1) := by decide +kernel
theorem dX7_tryAllWays_61 : decode cX7_tryAllWays 61 = .ok (.iload 5, 2) := by decide +kernel
theorem dX7_tryAllWays_63 : decode cX7_tryAllWays 63 = .ok (.ishr, 1) := by decide +kernel
theorem dX7_tryAllWays_64 : decode cX7_tryAllWays 64 = .ok (.iconst 1, 1) := by decide +kernel
theorem dX7_tryAllWays_65 : decode cX7_tryAllWays 65 = .ok (.iand, 1) := by decide +kernel
theorem dX7_tryAllWays_66 : decode cX7_tryAllWays 66 = .ok (.ifCond .ne 18, 3) := by decide +kernel
theorem dX7_tryAllWays_69 : decode cX7_tryAllWays 69 = .ok (.aload_n 0, 1) := by decide +kernel
theorem dX7_tryAllWays_70 : decode cX7_tryAllWays 70 = .ok (.getfield 24, 3) := by decide +kernel
theorem dX7_tryAllWays_73 : decode cX7_tryAllWays 73 = .ok (.iload 5, 2) := by decide +kernel
theorem dX7_tryAllWays_75 : decode cX7_tryAllWays 75 = .ok (.dup2, 1) := by decide +kernel
theorem dX7_tryAllWays_76 : decode cX7_tryAllWays 76 = .ok (.iaload, 1) := by decide +kernel
theorem dX7_tryAllWays_77 : decode cX7_tryAllWays 77 = .ok (.iload 4, 2) := by decide +kernel
theorem dX7_tryAllWays_79 : decode cX7_tryAllWays 79 = .ok (.ior, 1) := by decide +kernel
theorem dX7_tryAllWays_80 : decode cX7_tryAllWays 80 = .ok (.iastore, 1) := by decide +kernel
theorem dX7_tryAllWays_81 : decode cX7_tryAllWays 81 = .ok (.goto 15, 3) := by decide +kernel
theorem dX7_tryAllWays_84 : decode cX7_tryAllWays 84 = .ok (.aload_n 0, 1) := by decide +kernel
theorem dX7_tryAllWays_85 : decode cX7_tryAllWays 85 = .ok (.getfield 27, 3) := by decide +kernel
theorem dX7_tryAllWays_88 : decode cX7_tryAllWays 88 = .ok (.iload 5, 2) := by decide +kernel
theorem dX7_tryAllWays_90 : decode cX7_tryAllWays 90 = .ok (.dup2, 1) := by decide +kernel
theorem dX7_tryAllWays_91 : decode cX7_tryAllWays 91 = .ok (.iaload, 1) := by decide +kernel
theorem dX7_tryAllWays_92 : decode cX7_tryAllWays 92 = .ok (.iload 4, 2) := by decide +kernel
theorem dX7_tryAllWays_94 : decode cX7_tryAllWays 94 = .ok (.ior, 1) := by decide +kernel
theorem dX7_tryAllWays_95 : decode cX7_tryAllWays 95 = .ok (.iastore, 1) := by decide +kernel
theorem dX7_tryAllWays_96 : decode cX7_tryAllWays 96 = .ok (.iinc 5 1, 3) := by decide +kernel
theorem dX7_tryAllWays_99 : decode cX7_tryAllWays 99 = .ok (.goto (-48), 3) := by decide +kernel
theorem dX7_tryAllWays_102 : decode cX7_tryAllWays 102 = .ok (.iinc 2 1, 3) := by decide +kernel
theorem dX7_tryAllWays_105 : decode cX7_tryAllWays 105 = .ok (.goto (-97), 3) := by decide +kernel
theorem dX7_tryAllWays_108 : decode cX7_tryAllWays 108 = .ok (.iload_n 1, 1) := by decide +kernel
theorem dX7_tryAllWays_109 : decode cX7_tryAllWays 109 = .ok (.ireturn, 1) := by decide +kernel
theorem dX7_findDoubted_0 : decode cX7_findDoubted 0 = .ok (.aload_n 0, 1) := by decide +kernel
theorem dX7_findDoubted_1 : decode cX7_findDoubted 1 = .ok (.iconst 0, 1) := by decide +kernel
theorem dX7_findDoubted_2 : decode cX7_findDoubted 2 = .ok (.putfield 54, 3) := by decide +kernel
theorem dX7_findDoubted_5 : decode cX7_findDoubted 5 = .ok (.aload_n 0, 1) := by decide +kernel
theorem dX7_findDoubted_6 : decode cX7_findDoubted 6 = .ok (.getfield 24, 3) := by decide +kernel
theorem dX7_findDoubted_9 : decode cX7_findDoubted 9 = .ok (.iconst 0, 1) := by decide +kernel
theorem dX7_findDoubted_10 : decode cX7_findDoubted 10 = .ok (.invokestatic 158, 3) := by decide +kernel
theorem dX7_findDoubted_13 : decode cX7_findDoubted 13 = .ok (.aload_n 0, 1) := by decide +kernel
theorem dX7_findDoubted_14 : decode cX7_findDoubted 14 = .ok (.getfield 27, 3) := by decide +kernel
theorem dX7_findDoubted_17 : decode cX7_findDoubted 17 = .ok (.iconst 0, 1) := by decide +kernel
theorem dX7_findDoubted_18 : decode cX7_findDoubted 18 = .ok (.invokestatic 158, 3) := by decide +kernel
theorem dX7_findDoubted_21 : decode cX7_findDoubted 21 = .ok (.iconst 0, 1) := by decide +kernel
theorem dX7_findDoubted_22 : decode cX7_findDoubted 22 = .ok (.istore_n 1, 1) := by decide +kernel
theorem dX7_findDoubted_23 : decode cX7_findDoubted 23 = .ok (.iload_n 1, 1) := by decide +kernel
theorem dX7_findDoubted_24 : decode cX7_findDoubted 24 = .ok (.aload_n 0, 1) := by decide +kernel
theorem dX7_findDoubted_25 : decode cX7_findDoubted 25 = .ok (.getfield 30, 3) := by decide +kernel
theorem dX7_findDoubted_28 : decode cX7_findDoubted 28 = .ok (.getfield 68, 3) := by decide +kernel
theorem dX7_findDoubted_31 : decode cX7_findDoubted 31 = .ok (.getfield 74, 3) := by decide +kernel
theorem dX7_findDoubted_34 : decode cX7_findDoubted 34 = .ok (.if_icmp .ge 52, 3) := by decide +kernel
theorem dX7_findDoubted_37 : decode cX7_findDoubted 37 = .ok (.aload_n 0, 1) := by decide +kernel
theorem dX7_findDoubted_38 : decode cX7_findDoubted 38 = .ok (.getfield 54, 3) := by decide +kernel
theorem dX7_findDoubted_41 : decode cX7_findDoubted 41 = .ok (.bipush 8, 2) := by decide +kernel
theorem dX7_findDoubted_43 : decode cX7_findDoubted 43 = .ok (.if_icmp .ge 43, 3) := by decide +kernel
theorem dX7_findDoubted_46 : decode cX7_findDoubted 46 = .ok (.aload_n 0, 1) := by decide +kernel
theorem dX7_findDoubted_47 : decode cX7_findDoubted 47 = .ok (.getfield 30, 3) := by decide +kernel
theorem dX7_findDoubted_50 : decode cX7_findDoubted 50 = .ok (.getfield 68, 3) := by decide +kernel
theorem dX7_findDoubted_53 : decode cX7_findDoubted 53 = .ok (.iload_n 1, 1) := by decide +kernel
theorem dX7_findDoubted_54 : decode cX7_findDoubted 54 = .ok (.invokevirtual 164, 3) := by decide +kernel
theorem dX7_findDoubted_57 : decode cX7_findDoubted 57 = .ok (.ifCond .eq 23, 3) := by decide +kernel
theorem dX7_findDoubted_60 : decode cX7_findDoubted 60 = .ok (.aload_n 0, 1) := by decide +kernel
theorem dX7_findDoubted_61 : decode cX7_findDoubted 61 = .ok (.getfield 21, 3) := by decide +kernel
theorem dX7_findDoubted_64 : decode cX7_findDoubted 64 = .ok (.aload_n 0, 1) := by decide +kernel
theorem dX7_findDoubted_65 : decode cX7_findDoubted 65 = .ok (.getfield 54, 3) := by decide +kernel
theorem dX7_findDoubted_68 : decode cX7_findDoubted 68 = .ok (.iload_n 1, 1) := by decide +kernel
theorem dX7_findDoubted_69 : decode cX7_findDoubted 69 = .ok (.iastore, 1) := by decide +kernel
theorem dX7_findDoubted_70 : decode cX7_findDoubted 70 = .ok (.aload_n 0, 1) := by decide +kernel
theorem dX7_findDoubted_71 : decode cX7_findDoubted 71 = .ok (.dup, 1) := by decide +kernel
theorem dX7_findDoubted_72 : decode cX7_findDoubted 72 = .ok (.getfield 54, 3) := by decide +kernel
theorem dX7_findDoubted_75 : decode cX7_findDoubted 75 = .ok (.iconst 1, 1) := by decide +kernel
theorem dX7_findDoubted_76 : decode cX7_findDoubted 76 = .ok (.iadd, 1) := by decide +kernel
theorem dX7_findDoubted_77 : decode cX7_findDoubted 77 = .ok (.putfield 54, 3) := by decide +kernel
theorem dX7_findDoubted_80 : decode cX7_findDoubted 80 = .ok (.iinc 1 1, 3) := by decide +kernel
theorem dX7_findDoubted_83 : decode cX7_findDoubted 83 = .ok (.goto (-60), 3) := by decide +kernel
theorem dX7_findDoubted_86 : decode cX7_findDoubted 86 = .ok (.return_, 1) := by decide +kernel
theorem dX7_deniedIn_0 : decode cX7_deniedIn 0 = .ok (.iconst 0, 1) := by decide +kernel
theorem dX7_deniedIn_1 : decode cX7_deniedIn 1 = .ok (.istore_n 2, 1) := by decide +kernel
theorem dX7_deniedIn_2 : decode cX7_deniedIn 2 = .ok (.iconst 0, 1) := by decide +kernel
theorem dX7_deniedIn_3 : decode cX7_deniedIn 3 = .ok (.istore_n 3, 1) := by decide +kernel
theorem dX7_deniedIn_4 : decode cX7_deniedIn 4 = .ok (.iload_n 3, 1) := by decide +kernel
theorem dX7_deniedIn_5 : decode cX7_deniedIn 5 = .ok (.aload_n 0, 1) := by decide +kernel
theorem dX7_deniedIn_6 : decode cX7_deniedIn 6 = .ok (.getfield 54, 3) := by decide +kernel
theorem dX7_deniedIn_9 : decode cX7_deniedIn 9 = .ok (.if_icmp .ge 24, 3) := by decide +kernel
theorem dX7_deniedIn_12 : decode cX7_deniedIn 12 = .ok (.iload_n 2, 1) := by decide +kernel
theorem dX7_deniedIn_13 : decode cX7_deniedIn 13 = .ok (.iload_n 1, 1) := by decide +kernel
theorem dX7_deniedIn_14 : decode cX7_deniedIn 14 = .ok (.iload_n 3, 1) := by decide +kernel
theorem dX7_deniedIn_15 : decode cX7_deniedIn 15 = .ok (.ishr, 1) := by decide +kernel
theorem dX7_deniedIn_16 : decode cX7_deniedIn 16 = .ok (.iconst 1, 1) := by decide +kernel
theorem dX7_deniedIn_17 : decode cX7_deniedIn 17 = .ok (.iand, 1) := by decide +kernel
theorem dX7_deniedIn_18 : decode cX7_deniedIn 18 = .ok (.aload_n 0, 1) := by decide +kernel
theorem dX7_deniedIn_19 : decode cX7_deniedIn 19 = .ok (.getfield 21, 3) := by decide +kernel
theorem dX7_deniedIn_22 : decode cX7_deniedIn 22 = .ok (.iload_n 3, 1) := by decide +kernel
theorem dX7_deniedIn_23 : decode cX7_deniedIn 23 = .ok (.iaload, 1) := by decide +kernel
theorem dX7_deniedIn_24 : decode cX7_deniedIn 24 = .ok (.ishl, 1) := by decide +kernel
theorem dX7_deniedIn_25 : decode cX7_deniedIn 25 = .ok (.ior, 1) := by decide +kernel
theorem dX7_deniedIn_26 : decode cX7_deniedIn 26 = .ok (.istore_n 2, 1) := by decide +kernel
theorem dX7_deniedIn_27 : decode cX7_deniedIn 27 = .ok (.iinc 3 1, 3) := by decide +kernel
theorem dX7_deniedIn_30 : decode cX7_deniedIn 30 = .ok (.goto (-26), 3) := by decide +kernel
theorem dX7_deniedIn_33 : decode cX7_deniedIn 33 = .ok (.iload_n 2, 1) := by decide +kernel
theorem dX7_deniedIn_34 : decode cX7_deniedIn 34 = .ok (.ireturn, 1) := by decide +kernel
theorem dX8_init_0 : decode cX8_init 0 = .ok (.aload_n 0, 1) := by decide +kernel
theorem dX8_init_1 : decode cX8_init 1 = .ok (.invokespecial 3, 3) := by decide +kernel
theorem dX8_init_4 : decode cX8_init 4 = .ok (.aload_n 0, 1) := by decide +kernel
theorem dX8_init_5 : decode cX8_init 5 = .ok (.bipush 60, 2) := by decide +kernel
theorem dX8_init_7 : decode cX8_init 7 = .ok (.newarray .int, 2) := by decide +kernel
theorem dX8_init_9 : decode cX8_init 9 = .ok (.putfield 9, 3) := by decide +kernel
theorem dX8_init_12 : decode cX8_init 12 = .ok (.return_, 1) := by decide +kernel
theorem dX8_isMissing_0 : decode cX8_isMissing 0 = .ok (.aload_n 0, 1) := by decide +kernel
theorem dX8_isMissing_1 : decode cX8_isMissing 1 = .ok (.getfield 15, 3) := by decide +kernel
theorem dX8_isMissing_4 : decode cX8_isMissing 4 = .ok (.ifCond .ne 7, 3) := by decide +kernel
theorem dX8_isMissing_7 : decode cX8_isMissing 7 = .ok (.iconst 1, 1) := by decide +kernel
theorem dX8_isMissing_8 : decode cX8_isMissing 8 = .ok (.goto 4, 3) := by decide +kernel
theorem dX8_isMissing_11 : decode cX8_isMissing 11 = .ok (.iconst 0, 1) := by decide +kernel
theorem dX8_isMissing_12 : decode cX8_isMissing 12 = .ok (.ireturn, 1) := by decide +kernel
theorem dX8_lay_0 : decode cX8_lay 0 = .ok (.aload_n 0, 1) := by decide +kernel
theorem dX8_lay_1 : decode cX8_lay 1 = .ok (.iload_n 1, 1) := by decide +kernel
theorem dX8_lay_2 : decode cX8_lay 2 = .ok (.putfield 15, 3) := by decide +kernel
theorem dX8_lay_5 : decode cX8_lay 5 = .ok (.aload_n 0, 1) := by decide +kernel
theorem dX8_lay_6 : decode cX8_lay 6 = .ok (.iload_n 2, 1) := by decide +kernel
theorem dX8_lay_7 : decode cX8_lay 7 = .ok (.putfield 19, 3) := by decide +kernel
theorem dX8_lay_10 : decode cX8_lay 10 = .ok (.aload_n 0, 1) := by decide +kernel
theorem dX8_lay_11 : decode cX8_lay 11 = .ok (.getfield 9, 3) := by decide +kernel
theorem dX8_lay_14 : decode cX8_lay 14 = .ok (.iconst 0, 1) := by decide +kernel
theorem dX8_lay_15 : decode cX8_lay 15 = .ok (.invokestatic 22, 3) := by decide +kernel
theorem dX8_lay_18 : decode cX8_lay 18 = .ok (.return_, 1) := by decide +kernel
theorem dX8_write_0 : decode cX8_write 0 = .ok (.bipush 32, 2) := by decide +kernel
theorem dX8_write_2 : decode cX8_write 2 = .ok (.aload_n 0, 1) := by decide +kernel
theorem dX8_write_3 : decode cX8_write 3 = .ok (.getfield 15, 3) := by decide +kernel
theorem dX8_write_6 : decode cX8_write 6 = .ok (.isub, 1) := by decide +kernel
theorem dX8_write_7 : decode cX8_write 7 = .ok (.istore_n 3, 1) := by decide +kernel
theorem dX8_write_8 : decode cX8_write 8 = .ok (.aload_n 0, 1) := by decide +kernel
theorem dX8_write_9 : decode cX8_write 9 = .ok (.getfield 9, 3) := by decide +kernel
theorem dX8_write_12 : decode cX8_write 12 = .ok (.iload_n 1, 1) := by decide +kernel
theorem dX8_write_13 : decode cX8_write 13 = .ok (.iload_n 2, 1) := by decide +kernel
theorem dX8_write_14 : decode cX8_write 14 = .ok (.iload_n 3, 1) := by decide +kernel
theorem dX8_write_15 : decode cX8_write 15 = .ok (.ishl, 1) := by decide +kernel
theorem dX8_write_16 : decode cX8_write 16 = .ok (.iload_n 3, 1) := by decide +kernel
theorem dX8_write_17 : decode cX8_write 17 = .ok (.ishr, 1) := by decide +kernel
theorem dX8_write_18 : decode cX8_write 18 = .ok (.iastore, 1) := by decide +kernel
theorem dX8_write_19 : decode cX8_write 19 = .ok (.return_, 1) := by decide +kernel
theorem dX8_hasRun_0 : decode cX8_hasRun 0 = .ok (.iload_n 1, 1) := by decide +kernel
theorem dX8_hasRun_1 : decode cX8_hasRun 1 = .ok (.ifCond .lt 29, 3) := by decide +kernel
theorem dX8_hasRun_4 : decode cX8_hasRun 4 = .ok (.iload_n 2, 1) := by decide +kernel
theorem dX8_hasRun_5 : decode cX8_hasRun 5 = .ok (.ifCond .lt 25, 3) := by decide +kernel
theorem dX8_hasRun_8 : decode cX8_hasRun 8 = .ok (.iload_n 2, 1) := by decide +kernel
theorem dX8_hasRun_9 : decode cX8_hasRun 9 = .ok (.aload_n 0, 1) := by decide +kernel
theorem dX8_hasRun_10 : decode cX8_hasRun 10 = .ok (.getfield 19, 3) := by decide +kernel
theorem dX8_hasRun_13 : decode cX8_hasRun 13 = .ok (.if_icmp .gt 17, 3) := by decide +kernel
theorem dX8_hasRun_16 : decode cX8_hasRun 16 = .ok (.iload_n 1, 1) := by decide +kernel
theorem dX8_hasRun_17 : decode cX8_hasRun 17 = .ok (.aload_n 0, 1) := by decide +kernel
theorem dX8_hasRun_18 : decode cX8_hasRun 18 = .ok (.getfield 19, 3) := by decide +kernel
theorem dX8_hasRun_21 : decode cX8_hasRun 21 = .ok (.iload_n 2, 1) := by decide +kernel
theorem dX8_hasRun_22 : decode cX8_hasRun 22 = .ok (.isub, 1) := by decide +kernel
theorem dX8_hasRun_23 : decode cX8_hasRun 23 = .ok (.if_icmp .gt 7, 3) := by decide +kernel
theorem dX8_hasRun_26 : decode cX8_hasRun 26 = .ok (.iconst 1, 1) := by decide +kernel
theorem dX8_hasRun_27 : decode cX8_hasRun 27 = .ok (.goto 4, 3) := by decide +kernel
theorem dX8_hasRun_30 : decode cX8_hasRun 30 = .ok (.iconst 0, 1) := by decide +kernel
theorem dX8_hasRun_31 : decode cX8_hasRun 31 = .ok (.ireturn, 1) := by decide +kernel
theorem dX9_init_0 : decode cX9_init 0 = .ok (.aload_n 0, 1) := by decide +kernel
theorem dX9_init_1 : decode cX9_init 1 = .ok (.invokespecial 1, 3) := by decide +kernel
theorem dX9_init_4 : decode cX9_init 4 = .ok (.aload_n 0, 1) := by decide +kernel
theorem dX9_init_5 : decode cX9_init 5 = .ok (.new 7, 3) := by decide +kernel
theorem dX9_init_8 : decode cX9_init 8 = .ok (.dup, 1) := by decide +kernel
theorem dX9_init_9 : decode cX9_init 9 = .ok (.invokespecial 9, 3) := by decide +kernel
theorem dX9_init_12 : decode cX9_init 12 = .ok (.putfield 10, 3) := by decide +kernel
theorem dX9_init_15 : decode cX9_init 15 = .ok (.aload_n 0, 1) := by decide +kernel
theorem dX9_init_16 : decode cX9_init 16 = .ok (.new 7, 3) := by decide +kernel
theorem dX9_init_19 : decode cX9_init 19 = .ok (.dup, 1) := by decide +kernel
theorem dX9_init_20 : decode cX9_init 20 = .ok (.invokespecial 9, 3) := by decide +kernel
theorem dX9_init_23 : decode cX9_init 23 = .ok (.putfield 16, 3) := by decide +kernel
theorem dX9_init_26 : decode cX9_init 26 = .ok (.aload_n 0, 1) := by decide +kernel
theorem dX9_init_27 : decode cX9_init 27 = .ok (.new 19, 3) := by decide +kernel
theorem dX9_init_30 : decode cX9_init 30 = .ok (.dup, 1) := by decide +kernel
theorem dX9_init_31 : decode cX9_init 31 = .ok (.aload_n 0, 1) := by decide +kernel
theorem dX9_init_32 : decode cX9_init 32 = .ok (.getfield 10, 3) := by decide +kernel
theorem dX9_init_35 : decode cX9_init 35 = .ok (.invokespecial 21, 3) := by decide +kernel
theorem dX9_init_38 : decode cX9_init 38 = .ok (.putfield 24, 3) := by decide +kernel
theorem dX9_init_41 : decode cX9_init 41 = .ok (.aload_n 0, 1) := by decide +kernel
theorem dX9_init_42 : decode cX9_init 42 = .ok (.iconst 4, 1) := by decide +kernel
theorem dX9_init_43 : decode cX9_init 43 = .ok (.anewarray 28, 3) := by decide +kernel
theorem dX9_init_46 : decode cX9_init 46 = .ok (.putfield 30, 3) := by decide +kernel
theorem dX9_init_49 : decode cX9_init 49 = .ok (.iconst 0, 1) := by decide +kernel
theorem dX9_init_50 : decode cX9_init 50 = .ok (.istore_n 1, 1) := by decide +kernel
theorem dX9_init_51 : decode cX9_init 51 = .ok (.iload_n 1, 1) := by decide +kernel
theorem dX9_init_52 : decode cX9_init 52 = .ok (.iconst 4, 1) := by decide +kernel
theorem dX9_init_53 : decode cX9_init 53 = .ok (.if_icmp .ge 22, 3) := by decide +kernel
theorem dX9_init_56 : decode cX9_init 56 = .ok (.aload_n 0, 1) := by decide +kernel
theorem dX9_init_57 : decode cX9_init 57 = .ok (.getfield 30, 3) := by decide +kernel
theorem dX9_init_60 : decode cX9_init 60 = .ok (.iload_n 1, 1) := by decide +kernel
theorem dX9_init_61 : decode cX9_init 61 = .ok (.new 28, 3) := by decide +kernel
theorem dX9_init_64 : decode cX9_init 64 = .ok (.dup, 1) := by decide +kernel
theorem dX9_init_65 : decode cX9_init 65 = .ok (.invokespecial 34, 3) := by decide +kernel
theorem dX9_init_68 : decode cX9_init 68 = .ok (.aastore, 1) := by decide +kernel
theorem dX9_init_69 : decode cX9_init 69 = .ok (.iinc 1 1, 3) := by decide +kernel
theorem dX9_init_72 : decode cX9_init 72 = .ok (.goto (-21), 3) := by decide +kernel
theorem dX9_init_75 : decode cX9_init 75 = .ok (.aload_n 0, 1) := by decide +kernel
theorem dX9_init_76 : decode cX9_init 76 = .ok (.iconst 0, 1) := by decide +kernel
theorem dX9_init_77 : decode cX9_init 77 = .ok (.putfield 35, 3) := by decide +kernel
theorem dX9_init_80 : decode cX9_init 80 = .ok (.aload_n 0, 1) := by decide +kernel
theorem dX9_init_81 : decode cX9_init 81 = .ok (.iconst 0, 1) := by decide +kernel
theorem dX9_init_82 : decode cX9_init 82 = .ok (.putfield 39, 3) := by decide +kernel
theorem dX9_init_85 : decode cX9_init 85 = .ok (.return_, 1) := by decide +kernel
theorem dX9_parish_0 : decode cX9_parish 0 = .ok (.iload_n 1, 1) := by decide +kernel
theorem dX9_parish_1 : decode cX9_parish 1 = .ok (.iconst 0, 1) := by decide +kernel
theorem dX9_parish_2 : decode cX9_parish 2 = .ok (.sipush 10000, 3) := by decide +kernel
theorem dX9_parish_5 : decode cX9_parish 5 = .ok (.invokestatic 43, 3) := by decide +kernel
theorem dX9_parish_8 : decode cX9_parish 8 = .ok (.ifCond .ne 10, 3) := by decide +kernel
theorem dX9_parish_11 : decode cX9_parish 11 = .ok (.aload_n 0, 1) := by decide +kernel
theorem dX9_parish_12 : decode cX9_parish 12 = .ok (.ldc 47, 2) := by decide +kernel
theorem dX9_parish_14 : decode cX9_parish 14 = .ok (.invokevirtual 48, 3) := by decide +kernel
theorem dX9_parish_17 : decode cX9_parish 17 = .ok (.ireturn, 1) := by decide +kernel
theorem dX9_parish_18 : decode cX9_parish 18 = .ok (.aload_n 0, 1) := by decide +kernel
theorem dX9_parish_19 : decode cX9_parish 19 = .ok (.getfield 10, 3) := by decide +kernel
theorem dX9_parish_22 : decode cX9_parish 22 = .ok (.getfield 52, 3) := by decide +kernel
theorem dX9_parish_25 : decode cX9_parish 25 = .ok (.getfield 56, 3) := by decide +kernel
theorem dX9_parish_28 : decode cX9_parish 28 = .ok (.bipush 6, 2) := by decide +kernel
theorem dX9_parish_30 : decode cX9_parish 30 = .ok (.if_icmp .lt 10, 3) := by decide +kernel
theorem dX9_parish_33 : decode cX9_parish 33 = .ok (.aload_n 0, 1) := by decide +kernel
theorem dX9_parish_34 : decode cX9_parish 34 = .ok (.ldc 61, 2) := by decide +kernel
theorem dX9_parish_36 : decode cX9_parish 36 = .ok (.invokevirtual 48, 3) := by decide +kernel
theorem dX9_parish_39 : decode cX9_parish 39 = .ok (.ireturn, 1) := by decide +kernel
theorem dX9_parish_40 : decode cX9_parish 40 = .ok (.aload_n 0, 1) := by decide +kernel
theorem dX9_parish_41 : decode cX9_parish 41 = .ok (.getfield 10, 3) := by decide +kernel
theorem dX9_parish_44 : decode cX9_parish 44 = .ok (.getfield 52, 3) := by decide +kernel
theorem dX9_parish_47 : decode cX9_parish 47 = .ok (.iload_n 1, 1) := by decide +kernel
theorem dX9_parish_48 : decode cX9_parish 48 = .ok (.invokevirtual 62, 3) := by decide +kernel
theorem dX9_parish_51 : decode cX9_parish 51 = .ok (.ireturn, 1) := by decide +kernel
theorem dX9_miles_0 : decode cX9_miles 0 = .ok (.aload_n 0, 1) := by decide +kernel
theorem dX9_miles_1 : decode cX9_miles 1 = .ok (.getfield 10, 3) := by decide +kernel
theorem dX9_miles_4 : decode cX9_miles 4 = .ok (.getfield 52, 3) := by decide +kernel
theorem dX9_miles_7 : decode cX9_miles 7 = .ok (.iload_n 1, 1) := by decide +kernel
theorem dX9_miles_8 : decode cX9_miles 8 = .ok (.invokevirtual 65, 3) := by decide +kernel
theorem dX9_miles_11 : decode cX9_miles 11 = .ok (.ifCond .eq 27, 3) := by decide +kernel
theorem dX9_miles_14 : decode cX9_miles 14 = .ok (.aload_n 0, 1) := by decide +kernel
theorem dX9_miles_15 : decode cX9_miles 15 = .ok (.getfield 10, 3) := by decide +kernel
theorem dX9_miles_18 : decode cX9_miles 18 = .ok (.getfield 52, 3) := by decide +kernel
theorem dX9_miles_21 : decode cX9_miles 21 = .ok (.iload_n 2, 1) := by decide +kernel
theorem dX9_miles_22 : decode cX9_miles 22 = .ok (.invokevirtual 65, 3) := by decide +kernel
theorem dX9_miles_25 : decode cX9_miles 25 = .ok (.ifCond .eq 13, 3) := by decide +kernel
theorem dX9_miles_28 : decode cX9_miles 28 = .ok (.iload_n 3, 1) := by decide +kernel
theorem dX9_miles_29 : decode cX9_miles 29 = .ok (.iconst 0, 1) := by decide +kernel
theorem dX9_miles_30 : decode cX9_miles 30 = .ok (.bipush 99, 2) := by decide +kernel
theorem dX9_miles_32 : decode cX9_miles 32 = .ok (.invokestatic 43, 3) := by decide +kernel
theorem dX9_miles_35 : decode cX9_miles 35 = .ok (.ifCond .ne 10, 3) := by decide +kernel
theorem dX9_miles_38 : decode cX9_miles 38 = .ok (.aload_n 0, 1) := by decide +kernel
theorem dX9_miles_39 : decode cX9_miles 39 = .ok (.ldc 47, 2) := by decide +kernel
theorem dX9_miles_41 : decode cX9_miles 41 = .ok (.invokevirtual 48, 3) := by decide +kernel
theorem dX9_miles_44 : decode cX9_miles 44 = .ok (.ireturn, 1) := by decide +kernel
theorem dX9_miles_45 : decode cX9_miles 45 = .ok (.iload_n 1, 1) := by decide +kernel
theorem dX9_miles_46 : decode cX9_miles 46 = .ok (.iload_n 2, 1) := by decide +kernel
theorem dX9_miles_47 : decode cX9_miles 47 = .ok (.if_icmp .ne 10, 3) := by decide +kernel
theorem dX9_miles_50 : decode cX9_miles 50 = .ok (.aload_n 0, 1) := by decide +kernel
theorem dX9_miles_51 : decode cX9_miles 51 = .ok (.ldc 69, 2) := by decide +kernel
theorem dX9_miles_53 : decode cX9_miles 53 = .ok (.invokevirtual 48, 3) := by decide +kernel
theorem dX9_miles_56 : decode cX9_miles 56 = .ok (.ireturn, 1) := by decide +kernel
theorem dX9_miles_57 : decode cX9_miles 57 = .ok (.aload_n 0, 1) := by decide +kernel
theorem dX9_miles_58 : decode cX9_miles 58 = .ok (.getfield 10, 3) := by decide +kernel
theorem dX9_miles_61 : decode cX9_miles 61 = .ok (.getfield 52, 3) := by decide +kernel
theorem dX9_miles_64 : decode cX9_miles 64 = .ok (.getfield 70, 3) := by decide +kernel
theorem dX9_miles_67 : decode cX9_miles 67 = .ok (.iload_n 1, 1) := by decide +kernel
theorem dX9_miles_68 : decode cX9_miles 68 = .ok (.aaload, 1) := by decide +kernel
theorem dX9_miles_69 : decode cX9_miles 69 = .ok (.iload_n 2, 1) := by decide +kernel
theorem dX9_miles_70 : decode cX9_miles 70 = .ok (.iaload, 1) := by decide +kernel
theorem dX9_miles_71 : decode cX9_miles 71 = .ok (.istore 4, 2) := by decide +kernel
theorem dX9_miles_73 : decode cX9_miles 73 = .ok (.aload_n 0, 1) := by decide +kernel
theorem dX9_miles_74 : decode cX9_miles 74 = .ok (.getfield 10, 3) := by decide +kernel
theorem dX9_miles_77 : decode cX9_miles 77 = .ok (.getfield 52, 3) := by decide +kernel
theorem dX9_miles_80 : decode cX9_miles 80 = .ok (.getfield 70, 3) := by decide +kernel
theorem dX9_miles_83 : decode cX9_miles 83 = .ok (.iload_n 1, 1) := by decide +kernel
theorem dX9_miles_84 : decode cX9_miles 84 = .ok (.aaload, 1) := by decide +kernel
theorem dX9_miles_85 : decode cX9_miles 85 = .ok (.iload_n 2, 1) := by decide +kernel
theorem dX9_miles_86 : decode cX9_miles 86 = .ok (.iload_n 3, 1) := by decide +kernel
theorem dX9_miles_87 : decode cX9_miles 87 = .ok (.iastore, 1) := by decide +kernel
theorem dX9_miles_88 : decode cX9_miles 88 = .ok (.aload_n 0, 1) := by decide +kernel
theorem dX9_miles_89 : decode cX9_miles 89 = .ok (.getfield 10, 3) := by decide +kernel
theorem dX9_miles_92 : decode cX9_miles 92 = .ok (.getfield 52, 3) := by decide +kernel
theorem dX9_miles_95 : decode cX9_miles 95 = .ok (.getfield 70, 3) := by decide +kernel
theorem dX9_miles_98 : decode cX9_miles 98 = .ok (.iload_n 2, 1) := by decide +kernel
theorem dX9_miles_99 : decode cX9_miles 99 = .ok (.aaload, 1) := by decide +kernel
theorem dX9_miles_100 : decode cX9_miles 100 = .ok (.iload_n 1, 1) := by decide +kernel
theorem dX9_miles_101 : decode cX9_miles 101 = .ok (.iload_n 3, 1) := by decide +kernel
theorem dX9_miles_102 : decode cX9_miles 102 = .ok (.iastore, 1) := by decide +kernel
theorem dX9_miles_103 : decode cX9_miles 103 = .ok (.iload 4, 2) := by decide +kernel
theorem dX9_miles_105 : decode cX9_miles 105 = .ok (.ireturn, 1) := by decide +kernel
theorem dX9_person_0 : decode cX9_person 0 = .ok (.iload_n 1, 1) := by decide +kernel
theorem dX9_person_1 : decode cX9_person 1 = .ok (.iconst 0, 1) := by decide +kernel
theorem dX9_person_2 : decode cX9_person 2 = .ok (.iconst 3, 1) := by decide +kernel
theorem dX9_person_3 : decode cX9_person 3 = .ok (.invokestatic 43, 3) := by decide +kernel
theorem dX9_person_6 : decode cX9_person 6 = .ok (.ifCond .eq 24, 3) := by decide +kernel
theorem dX9_person_9 : decode cX9_person 9 = .ok (.aload_n 0, 1) := by decide +kernel
theorem dX9_person_10 : decode cX9_person 10 = .ok (.getfield 10, 3) := by decide +kernel
theorem dX9_person_13 : decode cX9_person 13 = .ok (.getfield 52, 3) := by decide +kernel
theorem dX9_person_16 : decode cX9_person 16 = .ok (.iload_n 2, 1) := by decide +kernel
theorem dX9_person_17 : decode cX9_person 17 = .ok (.invokevirtual 65, 3) := by decide +kernel
theorem dX9_person_20 : decode cX9_person 20 = .ok (.ifCond .eq 10, 3) := by decide +kernel
theorem dX9_person_23 : decode cX9_person 23 = .ok (.iload_n 3, 1) := by decide +kernel
theorem dX9_person_24 : decode cX9_person 24 = .ok (.invokestatic 74, 3) := by decide +kernel
theorem dX9_person_27 : decode cX9_person 27 = .ok (.ifCond .ne 10, 3) := by decide +kernel
theorem dX9_person_30 : decode cX9_person 30 = .ok (.aload_n 0, 1) := by decide +kernel
theorem dX9_person_31 : decode cX9_person 31 = .ok (.ldc 47, 2) := by decide +kernel
theorem dX9_person_33 : decode cX9_person 33 = .ok (.invokevirtual 48, 3) := by decide +kernel
theorem dX9_person_36 : decode cX9_person 36 = .ok (.ireturn, 1) := by decide +kernel
theorem dX9_person_37 : decode cX9_person 37 = .ok (.aload_n 0, 1) := by decide +kernel
theorem dX9_person_38 : decode cX9_person 38 = .ok (.getfield 10, 3) := by decide +kernel
theorem dX9_person_41 : decode cX9_person 41 = .ok (.getfield 77, 3) := by decide +kernel
theorem dX9_person_44 : decode cX9_person 44 = .ok (.getfield 81, 3) := by decide +kernel
theorem dX9_person_47 : decode cX9_person 47 = .ok (.bipush 10, 2) := by decide +kernel
theorem dX9_person_49 : decode cX9_person 49 = .ok (.if_icmp .lt 10, 3) := by decide +kernel
theorem dX9_person_52 : decode cX9_person 52 = .ok (.aload_n 0, 1) := by decide +kernel
theorem dX9_person_53 : decode cX9_person 53 = .ok (.ldc 61, 2) := by decide +kernel
theorem dX9_person_55 : decode cX9_person 55 = .ok (.invokevirtual 48, 3) := by decide +kernel
theorem dX9_person_58 : decode cX9_person 58 = .ok (.ireturn, 1) := by decide +kernel
theorem dX9_person_59 : decode cX9_person 59 = .ok (.aload_n 0, 1) := by decide +kernel
theorem dX9_person_60 : decode cX9_person 60 = .ok (.getfield 10, 3) := by decide +kernel
theorem dX9_person_63 : decode cX9_person 63 = .ok (.getfield 77, 3) := by decide +kernel
theorem dX9_person_66 : decode cX9_person 66 = .ok (.iload_n 1, 1) := by decide +kernel
theorem dX9_person_67 : decode cX9_person 67 = .ok (.iload_n 2, 1) := by decide +kernel
theorem dX9_person_68 : decode cX9_person 68 = .ok (.iload_n 3, 1) := by decide +kernel
theorem dX9_person_69 : decode cX9_person 69 = .ok (.invokevirtual 84, 3) := by decide +kernel
theorem dX9_person_72 : decode cX9_person 72 = .ok (.istore 4, 2) := by decide +kernel
theorem dX9_person_74 : decode cX9_person 74 = .ok (.aload_n 0, 1) := by decide +kernel
theorem dX9_person_75 : decode cX9_person 75 = .ok (.getfield 10, 3) := by decide +kernel
theorem dX9_person_78 : decode cX9_person 78 = .ok (.getfield 87, 3) := by decide +kernel
theorem dX9_person_81 : decode cX9_person 81 = .ok (.iload 4, 2) := by decide +kernel
theorem dX9_person_83 : decode cX9_person 83 = .ok (.invokevirtual 91, 3) := by decide +kernel
theorem dX9_person_86 : decode cX9_person 86 = .ok (.iload 4, 2) := by decide +kernel
theorem dX9_person_88 : decode cX9_person 88 = .ok (.ireturn, 1) := by decide +kernel
theorem dX9_as_0 : decode cX9_as 0 = .ok (.aload_n 0, 1) := by decide +kernel
theorem dX9_as_1 : decode cX9_as 1 = .ok (.getfield 10, 3) := by decide +kernel
theorem dX9_as_4 : decode cX9_as 4 = .ok (.getfield 77, 3) := by decide +kernel
theorem dX9_as_7 : decode cX9_as 7 = .ok (.iload_n 1, 1) := by decide +kernel
theorem dX9_as_8 : decode cX9_as 8 = .ok (.invokevirtual 97, 3) := by decide +kernel
theorem dX9_as_11 : decode cX9_as 11 = .ok (.ifCond .eq 12, 3) := by decide +kernel
theorem dX9_as_14 : decode cX9_as 14 = .ok (.iload_n 2, 1) := by decide +kernel
theorem dX9_as_15 : decode cX9_as 15 = .ok (.iconst 0, 1) := by decide +kernel
theorem dX9_as_16 : decode cX9_as 16 = .ok (.iconst 3, 1) := by decide +kernel
theorem dX9_as_17 : decode cX9_as 17 = .ok (.invokestatic 43, 3) := by decide +kernel
theorem dX9_as_20 : decode cX9_as 20 = .ok (.ifCond .ne 10, 3) := by decide +kernel
theorem dX9_as_23 : decode cX9_as 23 = .ok (.aload_n 0, 1) := by decide +kernel
theorem dX9_as_24 : decode cX9_as 24 = .ok (.ldc 47, 2) := by decide +kernel
theorem dX9_as_26 : decode cX9_as 26 = .ok (.invokevirtual 48, 3) := by decide +kernel
theorem dX9_as_29 : decode cX9_as 29 = .ok (.ireturn, 1) := by decide +kernel
theorem dX9_as_30 : decode cX9_as 30 = .ok (.aload_n 0, 1) := by decide +kernel
theorem dX9_as_31 : decode cX9_as 31 = .ok (.getfield 10, 3) := by decide +kernel
theorem dX9_as_34 : decode cX9_as 34 = .ok (.getfield 77, 3) := by decide +kernel
theorem dX9_as_37 : decode cX9_as 37 = .ok (.iload_n 1, 1) := by decide +kernel
theorem dX9_as_38 : decode cX9_as 38 = .ok (.iload_n 2, 1) := by decide +kernel
theorem dX9_as_39 : decode cX9_as 39 = .ok (.invokevirtual 98, 3) := by decide +kernel
theorem dX9_as_42 : decode cX9_as 42 = .ok (.ifCond .ne 10, 3) := by decide +kernel
theorem dX9_as_45 : decode cX9_as 45 = .ok (.aload_n 0, 1) := by decide +kernel
theorem dX9_as_46 : decode cX9_as 46 = .ok (.ldc 102, 2) := by decide +kernel
theorem dX9_as_48 : decode cX9_as 48 = .ok (.invokevirtual 48, 3) := by decide +kernel
theorem dX9_as_51 : decode cX9_as 51 = .ok (.ireturn, 1) := by decide +kernel
theorem dX9_as_52 : decode cX9_as 52 = .ok (.iload_n 1, 1) := by decide +kernel
theorem dX9_as_53 : decode cX9_as 53 = .ok (.ireturn, 1) := by decide +kernel
theorem dX9_husband_0 : decode cX9_husband 0 = .ok (.iload_n 2, 1) := by decide +kernel
theorem dX9_husband_1 : decode cX9_husband 1 = .ok (.iconst (-1), 1) := by decide +kernel
theorem dX9_husband_2 : decode cX9_husband 2 = .ok (.if_icmp .ne 7, 3) := by decide +kernel
theorem dX9_husband_5 : decode cX9_husband 5 = .ok (.iconst 1, 1) := by decide +kernel
theorem dX9_husband_6 : decode cX9_husband 6 = .ok (.goto 4, 3) := by decide +kernel
theorem dX9_husband_9 : decode cX9_husband 9 = .ok (.iconst 0, 1) := by decide +kernel
theorem dX9_husband_10 : decode cX9_husband 10 = .ok (.istore 4, 2) := by decide +kernel
end
section
theorem dX9_husband_12 : decode cX9_husband 12 = .ok (.aload_n 0, 1) := by decide +kernel
theorem dX9_husband_13 : decode cX9_husband 13 = .ok (.getfield 10, 3) := by decide +kernel
theorem dX9_husband_16 : decode cX9_husband 16 = .ok (.getfield 77, 3) := by decide +kernel
theorem dX9_husband_19 : decode cX9_husband 19 = .ok (.iload_n 1, 1) := by decide +kernel
theorem dX9_husband_20 : decode cX9_husband 20 = .ok (.invokevirtual 97, 3) := by decide +kernel
theorem dX9_husband_23 : decode cX9_husband 23 = .ok (.ifCond .eq 29, 3) := by decide +kernel
theorem dX9_husband_26 : decode cX9_husband 26 = .ok (.iload 4, 2) := by decide +kernel
theorem dX9_husband_28 : decode cX9_husband 28 = .ok (.ifCond .ne 31, 3) := by decide +kernel
theorem dX9_husband_31 : decode cX9_husband 31 = .ok (.aload_n 0, 1) := by decide +kernel
theorem dX9_husband_32 : decode cX9_husband 32 = .ok (.getfield 10, 3) := by decide +kernel
theorem dX9_husband_35 : decode cX9_husband 35 = .ok (.getfield 77, 3) := by decide +kernel
theorem dX9_husband_38 : decode cX9_husband 38 = .ok (.iload_n 2, 1) := by decide +kernel
theorem dX9_husband_39 : decode cX9_husband 39 = .ok (.invokevirtual 97, 3) := by decide +kernel
theorem dX9_husband_42 : decode cX9_husband 42 = .ok (.ifCond .eq 10, 3) := by decide +kernel
theorem dX9_husband_45 : decode cX9_husband 45 = .ok (.iload_n 3, 1) := by decide +kernel
theorem dX9_husband_46 : decode cX9_husband 46 = .ok (.invokestatic 74, 3) := by decide +kernel
theorem dX9_husband_49 : decode cX9_husband 49 = .ok (.ifCond .ne 10, 3) := by decide +kernel
theorem dX9_husband_52 : decode cX9_husband 52 = .ok (.aload_n 0, 1) := by decide +kernel
theorem dX9_husband_53 : decode cX9_husband 53 = .ok (.ldc 47, 2) := by decide +kernel
theorem dX9_husband_55 : decode cX9_husband 55 = .ok (.invokevirtual 48, 3) := by decide +kernel
theorem dX9_husband_58 : decode cX9_husband 58 = .ok (.ireturn, 1) := by decide +kernel
theorem dX9_husband_59 : decode cX9_husband 59 = .ok (.aload_n 0, 1) := by decide +kernel
theorem dX9_husband_60 : decode cX9_husband 60 = .ok (.getfield 10, 3) := by decide +kernel
theorem dX9_husband_63 : decode cX9_husband 63 = .ok (.getfield 77, 3) := by decide +kernel
theorem dX9_husband_66 : decode cX9_husband 66 = .ok (.getfield 103, 3) := by decide +kernel
theorem dX9_husband_69 : decode cX9_husband 69 = .ok (.iload_n 1, 1) := by decide +kernel
theorem dX9_husband_70 : decode cX9_husband 70 = .ok (.iaload, 1) := by decide +kernel
theorem dX9_husband_71 : decode cX9_husband 71 = .ok (.iconst 1, 1) := by decide +kernel
theorem dX9_husband_72 : decode cX9_husband 72 = .ok (.if_icmp .eq 10, 3) := by decide +kernel
theorem dX9_husband_75 : decode cX9_husband 75 = .ok (.aload_n 0, 1) := by decide +kernel
theorem dX9_husband_76 : decode cX9_husband 76 = .ok (.ldc 102, 2) := by decide +kernel
theorem dX9_husband_78 : decode cX9_husband 78 = .ok (.invokevirtual 48, 3) := by decide +kernel
theorem dX9_husband_81 : decode cX9_husband 81 = .ok (.ireturn, 1) := by decide +kernel
theorem dX9_husband_82 : decode cX9_husband 82 = .ok (.aload_n 0, 1) := by decide +kernel
theorem dX9_husband_83 : decode cX9_husband 83 = .ok (.getfield 10, 3) := by decide +kernel
theorem dX9_husband_86 : decode cX9_husband 86 = .ok (.getfield 77, 3) := by decide +kernel
theorem dX9_husband_89 : decode cX9_husband 89 = .ok (.iload_n 2, 1) := by decide +kernel
theorem dX9_husband_90 : decode cX9_husband 90 = .ok (.iload_n 1, 1) := by decide +kernel
theorem dX9_husband_91 : decode cX9_husband 91 = .ok (.invokevirtual 107, 3) := by decide +kernel
theorem dX9_husband_94 : decode cX9_husband 94 = .ok (.ifCond .eq 10, 3) := by decide +kernel
theorem dX9_husband_97 : decode cX9_husband 97 = .ok (.aload_n 0, 1) := by decide +kernel
theorem dX9_husband_98 : decode cX9_husband 98 = .ok (.ldc 110, 2) := by decide +kernel
theorem dX9_husband_100 : decode cX9_husband 100 = .ok (.invokevirtual 48, 3) := by decide +kernel
theorem dX9_husband_103 : decode cX9_husband 103 = .ok (.ireturn, 1) := by decide +kernel
theorem dX9_husband_104 : decode cX9_husband 104 = .ok (.aload_n 0, 1) := by decide +kernel
theorem dX9_husband_105 : decode cX9_husband 105 = .ok (.getfield 10, 3) := by decide +kernel
theorem dX9_husband_108 : decode cX9_husband 108 = .ok (.getfield 77, 3) := by decide +kernel
theorem dX9_husband_111 : decode cX9_husband 111 = .ok (.iload_n 1, 1) := by decide +kernel
theorem dX9_husband_112 : decode cX9_husband 112 = .ok (.iload_n 2, 1) := by decide +kernel
theorem dX9_husband_113 : decode cX9_husband 113 = .ok (.iload 4, 2) := by decide +kernel
theorem dX9_husband_115 : decode cX9_husband 115 = .ok (.ifCond .eq 7, 3) := by decide +kernel
theorem dX9_husband_118 : decode cX9_husband 118 = .ok (.iconst 0, 1) := by decide +kernel
theorem dX9_husband_119 : decode cX9_husband 119 = .ok (.goto 4, 3) := by decide +kernel
theorem dX9_husband_122 : decode cX9_husband 122 = .ok (.iload_n 3, 1) := by decide +kernel
theorem dX9_husband_123 : decode cX9_husband 123 = .ok (.invokevirtual 111, 3) := by decide +kernel
theorem dX9_husband_126 : decode cX9_husband 126 = .ok (.ireturn, 1) := by decide +kernel
theorem dX9_father_0 : decode cX9_father 0 = .ok (.aload_n 0, 1) := by decide +kernel
theorem dX9_father_1 : decode cX9_father 1 = .ok (.getfield 10, 3) := by decide +kernel
theorem dX9_father_4 : decode cX9_father 4 = .ok (.getfield 77, 3) := by decide +kernel
theorem dX9_father_7 : decode cX9_father 7 = .ok (.iload_n 1, 1) := by decide +kernel
theorem dX9_father_8 : decode cX9_father 8 = .ok (.invokevirtual 97, 3) := by decide +kernel
theorem dX9_father_11 : decode cX9_father 11 = .ok (.ifCond .eq 22, 3) := by decide +kernel
theorem dX9_father_14 : decode cX9_father 14 = .ok (.iload_n 2, 1) := by decide +kernel
theorem dX9_father_15 : decode cX9_father 15 = .ok (.iconst (-1), 1) := by decide +kernel
theorem dX9_father_16 : decode cX9_father 16 = .ok (.if_icmp .eq 24, 3) := by decide +kernel
theorem dX9_father_19 : decode cX9_father 19 = .ok (.aload_n 0, 1) := by decide +kernel
theorem dX9_father_20 : decode cX9_father 20 = .ok (.getfield 10, 3) := by decide +kernel
theorem dX9_father_23 : decode cX9_father 23 = .ok (.getfield 77, 3) := by decide +kernel
theorem dX9_father_26 : decode cX9_father 26 = .ok (.iload_n 2, 1) := by decide +kernel
theorem dX9_father_27 : decode cX9_father 27 = .ok (.invokevirtual 97, 3) := by decide +kernel
theorem dX9_father_30 : decode cX9_father 30 = .ok (.ifCond .ne 10, 3) := by decide +kernel
theorem dX9_father_33 : decode cX9_father 33 = .ok (.aload_n 0, 1) := by decide +kernel
theorem dX9_father_34 : decode cX9_father 34 = .ok (.ldc 47, 2) := by decide +kernel
theorem dX9_father_36 : decode cX9_father 36 = .ok (.invokevirtual 48, 3) := by decide +kernel
theorem dX9_father_39 : decode cX9_father 39 = .ok (.ireturn, 1) := by decide +kernel
theorem dX9_father_40 : decode cX9_father 40 = .ok (.aload_n 0, 1) := by decide +kernel
theorem dX9_father_41 : decode cX9_father 41 = .ok (.getfield 10, 3) := by decide +kernel
theorem dX9_father_44 : decode cX9_father 44 = .ok (.getfield 77, 3) := by decide +kernel
theorem dX9_father_47 : decode cX9_father 47 = .ok (.getfield 103, 3) := by decide +kernel
theorem dX9_father_50 : decode cX9_father 50 = .ok (.iload_n 1, 1) := by decide +kernel
theorem dX9_father_51 : decode cX9_father 51 = .ok (.iaload, 1) := by decide +kernel
theorem dX9_father_52 : decode cX9_father 52 = .ok (.iconst 2, 1) := by decide +kernel
theorem dX9_father_53 : decode cX9_father 53 = .ok (.if_icmp .eq 10, 3) := by decide +kernel
theorem dX9_father_56 : decode cX9_father 56 = .ok (.aload_n 0, 1) := by decide +kernel
theorem dX9_father_57 : decode cX9_father 57 = .ok (.ldc 102, 2) := by decide +kernel
theorem dX9_father_59 : decode cX9_father 59 = .ok (.invokevirtual 48, 3) := by decide +kernel
theorem dX9_father_62 : decode cX9_father 62 = .ok (.ireturn, 1) := by decide +kernel
theorem dX9_father_63 : decode cX9_father 63 = .ok (.aload_n 0, 1) := by decide +kernel
theorem dX9_father_64 : decode cX9_father 64 = .ok (.getfield 10, 3) := by decide +kernel
theorem dX9_father_67 : decode cX9_father 67 = .ok (.getfield 77, 3) := by decide +kernel
theorem dX9_father_70 : decode cX9_father 70 = .ok (.iload_n 2, 1) := by decide +kernel
theorem dX9_father_71 : decode cX9_father 71 = .ok (.iload_n 1, 1) := by decide +kernel
theorem dX9_father_72 : decode cX9_father 72 = .ok (.invokevirtual 107, 3) := by decide +kernel
theorem dX9_father_75 : decode cX9_father 75 = .ok (.ifCond .eq 10, 3) := by decide +kernel
theorem dX9_father_78 : decode cX9_father 78 = .ok (.aload_n 0, 1) := by decide +kernel
theorem dX9_father_79 : decode cX9_father 79 = .ok (.ldc 110, 2) := by decide +kernel
theorem dX9_father_81 : decode cX9_father 81 = .ok (.invokevirtual 48, 3) := by decide +kernel
theorem dX9_father_84 : decode cX9_father 84 = .ok (.ireturn, 1) := by decide +kernel
theorem dX9_father_85 : decode cX9_father 85 = .ok (.aload_n 0, 1) := by decide +kernel
theorem dX9_father_86 : decode cX9_father 86 = .ok (.getfield 10, 3) := by decide +kernel
theorem dX9_father_89 : decode cX9_father 89 = .ok (.getfield 77, 3) := by decide +kernel
theorem dX9_father_92 : decode cX9_father 92 = .ok (.iload_n 1, 1) := by decide +kernel
theorem dX9_father_93 : decode cX9_father 93 = .ok (.iload_n 2, 1) := by decide +kernel
theorem dX9_father_94 : decode cX9_father 94 = .ok (.iconst 0, 1) := by decide +kernel
theorem dX9_father_95 : decode cX9_father 95 = .ok (.invokevirtual 111, 3) := by decide +kernel
theorem dX9_father_98 : decode cX9_father 98 = .ok (.ireturn, 1) := by decide +kernel
theorem dX9_fact_0 : decode cX9_fact 0 = .ok (.iload_n 1, 1) := by decide +kernel
theorem dX9_fact_1 : decode cX9_fact 1 = .ok (.iconst 0, 1) := by decide +kernel
theorem dX9_fact_2 : decode cX9_fact 2 = .ok (.iconst 1, 1) := by decide +kernel
theorem dX9_fact_3 : decode cX9_fact 3 = .ok (.invokestatic 43, 3) := by decide +kernel
theorem dX9_fact_6 : decode cX9_fact 6 = .ok (.ifCond .eq 71, 3) := by decide +kernel
theorem dX9_fact_9 : decode cX9_fact 9 = .ok (.aload_n 0, 1) := by decide +kernel
theorem dX9_fact_10 : decode cX9_fact 10 = .ok (.getfield 10, 3) := by decide +kernel
theorem dX9_fact_13 : decode cX9_fact 13 = .ok (.getfield 77, 3) := by decide +kernel
theorem dX9_fact_16 : decode cX9_fact 16 = .ok (.iload_n 2, 1) := by decide +kernel
theorem dX9_fact_17 : decode cX9_fact 17 = .ok (.invokevirtual 97, 3) := by decide +kernel
theorem dX9_fact_20 : decode cX9_fact 20 = .ok (.ifCond .eq 57, 3) := by decide +kernel
theorem dX9_fact_23 : decode cX9_fact 23 = .ok (.aload_n 0, 1) := by decide +kernel
theorem dX9_fact_24 : decode cX9_fact 24 = .ok (.getfield 10, 3) := by decide +kernel
theorem dX9_fact_27 : decode cX9_fact 27 = .ok (.getfield 52, 3) := by decide +kernel
theorem dX9_fact_30 : decode cX9_fact 30 = .ok (.iload_n 3, 1) := by decide +kernel
theorem dX9_fact_31 : decode cX9_fact 31 = .ok (.invokevirtual 65, 3) := by decide +kernel
theorem dX9_fact_34 : decode cX9_fact 34 = .ok (.ifCond .eq 43, 3) := by decide +kernel
theorem dX9_fact_37 : decode cX9_fact 37 = .ok (.iload_n 1, 1) := by decide +kernel
theorem dX9_fact_38 : decode cX9_fact 38 = .ok (.iconst 1, 1) := by decide +kernel
theorem dX9_fact_39 : decode cX9_fact 39 = .ok (.if_icmp .ne 14, 3) := by decide +kernel
theorem dX9_fact_42 : decode cX9_fact 42 = .ok (.iload 4, 2) := by decide +kernel
theorem dX9_fact_44 : decode cX9_fact 44 = .ok (.iconst 0, 1) := by decide +kernel
theorem dX9_fact_45 : decode cX9_fact 45 = .ok (.bipush 99, 2) := by decide +kernel
theorem dX9_fact_47 : decode cX9_fact 47 = .ok (.invokestatic 43, 3) := by decide +kernel
theorem dX9_fact_50 : decode cX9_fact 50 = .ok (.ifCond .eq 27, 3) := by decide +kernel
theorem dX9_fact_53 : decode cX9_fact 53 = .ok (.iload 5, 2) := by decide +kernel
theorem dX9_fact_55 : decode cX9_fact 55 = .ok (.invokestatic 74, 3) := by decide +kernel
theorem dX9_fact_58 : decode cX9_fact 58 = .ok (.ifCond .eq 19, 3) := by decide +kernel
theorem dX9_fact_61 : decode cX9_fact 61 = .ok (.iload 6, 2) := by decide +kernel
theorem dX9_fact_63 : decode cX9_fact 63 = .ok (.invokestatic 74, 3) := by decide +kernel
theorem dX9_fact_66 : decode cX9_fact 66 = .ok (.ifCond .eq 11, 3) := by decide +kernel
theorem dX9_fact_69 : decode cX9_fact 69 = .ok (.iload 7, 2) := by decide +kernel
theorem dX9_fact_71 : decode cX9_fact 71 = .ok (.invokestatic 74, 3) := by decide +kernel
theorem dX9_fact_74 : decode cX9_fact 74 = .ok (.ifCond .ne 10, 3) := by decide +kernel
theorem dX9_fact_77 : decode cX9_fact 77 = .ok (.aload_n 0, 1) := by decide +kernel
theorem dX9_fact_78 : decode cX9_fact 78 = .ok (.ldc 47, 2) := by decide +kernel
theorem dX9_fact_80 : decode cX9_fact 80 = .ok (.invokevirtual 48, 3) := by decide +kernel
theorem dX9_fact_83 : decode cX9_fact 83 = .ok (.ireturn, 1) := by decide +kernel
theorem dX9_fact_84 : decode cX9_fact 84 = .ok (.iload 5, 2) := by decide +kernel
theorem dX9_fact_86 : decode cX9_fact 86 = .ok (.iload 6, 2) := by decide +kernel
theorem dX9_fact_88 : decode cX9_fact 88 = .ok (.if_icmp .le 10, 3) := by decide +kernel
theorem dX9_fact_91 : decode cX9_fact 91 = .ok (.aload_n 0, 1) := by decide +kernel
theorem dX9_fact_92 : decode cX9_fact 92 = .ok (.ldc 69, 2) := by decide +kernel
theorem dX9_fact_94 : decode cX9_fact 94 = .ok (.invokevirtual 48, 3) := by decide +kernel
theorem dX9_fact_97 : decode cX9_fact 97 = .ok (.ireturn, 1) := by decide +kernel
theorem dX9_fact_98 : decode cX9_fact 98 = .ok (.aload_n 0, 1) := by decide +kernel
theorem dX9_fact_99 : decode cX9_fact 99 = .ok (.getfield 10, 3) := by decide +kernel
theorem dX9_fact_102 : decode cX9_fact 102 = .ok (.getfield 114, 3) := by decide +kernel
theorem dX9_fact_105 : decode cX9_fact 105 = .ok (.getfield 118, 3) := by decide +kernel
theorem dX9_fact_108 : decode cX9_fact 108 = .ok (.bipush 24, 2) := by decide +kernel
theorem dX9_fact_110 : decode cX9_fact 110 = .ok (.if_icmp .lt 10, 3) := by decide +kernel
theorem dX9_fact_113 : decode cX9_fact 113 = .ok (.aload_n 0, 1) := by decide +kernel
theorem dX9_fact_114 : decode cX9_fact 114 = .ok (.ldc 61, 2) := by decide +kernel
theorem dX9_fact_116 : decode cX9_fact 116 = .ok (.invokevirtual 48, 3) := by decide +kernel
theorem dX9_fact_119 : decode cX9_fact 119 = .ok (.ireturn, 1) := by decide +kernel
theorem dX9_fact_120 : decode cX9_fact 120 = .ok (.aload_n 0, 1) := by decide +kernel
theorem dX9_fact_121 : decode cX9_fact 121 = .ok (.getfield 10, 3) := by decide +kernel
theorem dX9_fact_124 : decode cX9_fact 124 = .ok (.getfield 114, 3) := by decide +kernel
theorem dX9_fact_127 : decode cX9_fact 127 = .ok (.iload_n 1, 1) := by decide +kernel
theorem dX9_fact_128 : decode cX9_fact 128 = .ok (.iload_n 2, 1) := by decide +kernel
theorem dX9_fact_129 : decode cX9_fact 129 = .ok (.iload_n 3, 1) := by decide +kernel
theorem dX9_fact_130 : decode cX9_fact 130 = .ok (.iload 4, 2) := by decide +kernel
theorem dX9_fact_132 : decode cX9_fact 132 = .ok (.iload 5, 2) := by decide +kernel
theorem dX9_fact_134 : decode cX9_fact 134 = .ok (.iload 6, 2) := by decide +kernel
theorem dX9_fact_136 : decode cX9_fact 136 = .ok (.iload 7, 2) := by decide +kernel
theorem dX9_fact_138 : decode cX9_fact 138 = .ok (.invokevirtual 121, 3) := by decide +kernel
theorem dX9_fact_141 : decode cX9_fact 141 = .ok (.ireturn, 1) := by decide +kernel
theorem dX9_doubt_0 : decode cX9_doubt 0 = .ok (.aload_n 0, 1) := by decide +kernel
theorem dX9_doubt_1 : decode cX9_doubt 1 = .ok (.getfield 10, 3) := by decide +kernel
theorem dX9_doubt_4 : decode cX9_doubt 4 = .ok (.getfield 114, 3) := by decide +kernel
theorem dX9_doubt_7 : decode cX9_doubt 7 = .ok (.iload_n 1, 1) := by decide +kernel
theorem dX9_doubt_8 : decode cX9_doubt 8 = .ok (.invokevirtual 124, 3) := by decide +kernel
theorem dX9_doubt_11 : decode cX9_doubt 11 = .ok (.ifCond .ne 10, 3) := by decide +kernel
theorem dX9_doubt_14 : decode cX9_doubt 14 = .ok (.aload_n 0, 1) := by decide +kernel
theorem dX9_doubt_15 : decode cX9_doubt 15 = .ok (.ldc 47, 2) := by decide +kernel
theorem dX9_doubt_17 : decode cX9_doubt 17 = .ok (.invokevirtual 48, 3) := by decide +kernel
theorem dX9_doubt_20 : decode cX9_doubt 20 = .ok (.ireturn, 1) := by decide +kernel
theorem dX9_doubt_21 : decode cX9_doubt 21 = .ok (.aload_n 0, 1) := by decide +kernel
theorem dX9_doubt_22 : decode cX9_doubt 22 = .ok (.getfield 10, 3) := by decide +kernel
theorem dX9_doubt_25 : decode cX9_doubt 25 = .ok (.getfield 114, 3) := by decide +kernel
theorem dX9_doubt_28 : decode cX9_doubt 28 = .ok (.iload_n 1, 1) := by decide +kernel
theorem dX9_doubt_29 : decode cX9_doubt 29 = .ok (.invokevirtual 125, 3) := by decide +kernel
theorem dX9_doubt_32 : decode cX9_doubt 32 = .ok (.iload_n 2, 1) := by decide +kernel
theorem dX9_doubt_33 : decode cX9_doubt 33 = .ok (.if_icmp .ne 5, 3) := by decide +kernel
theorem dX9_doubt_36 : decode cX9_doubt 36 = .ok (.iconst 0, 1) := by decide +kernel
theorem dX9_doubt_37 : decode cX9_doubt 37 = .ok (.ireturn, 1) := by decide +kernel
theorem dX9_doubt_38 : decode cX9_doubt 38 = .ok (.iload_n 2, 1) := by decide +kernel
theorem dX9_doubt_39 : decode cX9_doubt 39 = .ok (.ifCond .eq 25, 3) := by decide +kernel
theorem dX9_doubt_42 : decode cX9_doubt 42 = .ok (.aload_n 0, 1) := by decide +kernel
theorem dX9_doubt_43 : decode cX9_doubt 43 = .ok (.getfield 10, 3) := by decide +kernel
theorem dX9_doubt_46 : decode cX9_doubt 46 = .ok (.getfield 114, 3) := by decide +kernel
theorem dX9_doubt_49 : decode cX9_doubt 49 = .ok (.invokevirtual 128, 3) := by decide +kernel
theorem dX9_doubt_52 : decode cX9_doubt 52 = .ok (.bipush 8, 2) := by decide +kernel
theorem dX9_doubt_54 : decode cX9_doubt 54 = .ok (.if_icmp .lt 10, 3) := by decide +kernel
theorem dX9_doubt_57 : decode cX9_doubt 57 = .ok (.aload_n 0, 1) := by decide +kernel
theorem dX9_doubt_58 : decode cX9_doubt 58 = .ok (.ldc 61, 2) := by decide +kernel
theorem dX9_doubt_60 : decode cX9_doubt 60 = .ok (.invokevirtual 48, 3) := by decide +kernel
theorem dX9_doubt_63 : decode cX9_doubt 63 = .ok (.ireturn, 1) := by decide +kernel
theorem dX9_doubt_64 : decode cX9_doubt 64 = .ok (.aload_n 0, 1) := by decide +kernel
theorem dX9_doubt_65 : decode cX9_doubt 65 = .ok (.getfield 10, 3) := by decide +kernel
theorem dX9_doubt_68 : decode cX9_doubt 68 = .ok (.getfield 114, 3) := by decide +kernel
theorem dX9_doubt_71 : decode cX9_doubt 71 = .ok (.getfield 132, 3) := by decide +kernel
theorem dX9_doubt_74 : decode cX9_doubt 74 = .ok (.iload_n 1, 1) := by decide +kernel
theorem dX9_doubt_75 : decode cX9_doubt 75 = .ok (.iload_n 2, 1) := by decide +kernel
theorem dX9_doubt_76 : decode cX9_doubt 76 = .ok (.ifCond .eq 7, 3) := by decide +kernel
theorem dX9_doubt_79 : decode cX9_doubt 79 = .ok (.iconst 1, 1) := by decide +kernel
theorem dX9_doubt_80 : decode cX9_doubt 80 = .ok (.goto 4, 3) := by decide +kernel
theorem dX9_doubt_83 : decode cX9_doubt 83 = .ok (.iconst 0, 1) := by decide +kernel
theorem dX9_doubt_84 : decode cX9_doubt 84 = .ok (.iastore, 1) := by decide +kernel
theorem dX9_doubt_85 : decode cX9_doubt 85 = .ok (.iconst 1, 1) := by decide +kernel
theorem dX9_doubt_86 : decode cX9_doubt 86 = .ok (.ireturn, 1) := by decide +kernel
theorem dX9_forget_0 : decode cX9_forget 0 = .ok (.aload_n 0, 1) := by decide +kernel
theorem dX9_forget_1 : decode cX9_forget 1 = .ok (.getfield 10, 3) := by decide +kernel
theorem dX9_forget_4 : decode cX9_forget 4 = .ok (.getfield 114, 3) := by decide +kernel
theorem dX9_forget_7 : decode cX9_forget 7 = .ok (.getfield 118, 3) := by decide +kernel
theorem dX9_forget_10 : decode cX9_forget 10 = .ok (.ifCond .gt 10, 3) := by decide +kernel
theorem dX9_forget_13 : decode cX9_forget 13 = .ok (.aload_n 0, 1) := by decide +kernel
theorem dX9_forget_14 : decode cX9_forget 14 = .ok (.ldc 135, 2) := by decide +kernel
theorem dX9_forget_16 : decode cX9_forget 16 = .ok (.invokevirtual 48, 3) := by decide +kernel
theorem dX9_forget_19 : decode cX9_forget 19 = .ok (.ireturn, 1) := by decide +kernel
theorem dX9_forget_20 : decode cX9_forget 20 = .ok (.aload_n 0, 1) := by decide +kernel
theorem dX9_forget_21 : decode cX9_forget 21 = .ok (.getfield 10, 3) := by decide +kernel
theorem dX9_forget_24 : decode cX9_forget 24 = .ok (.getfield 114, 3) := by decide +kernel
theorem dX9_forget_27 : decode cX9_forget 27 = .ok (.dup, 1) := by decide +kernel
theorem dX9_forget_28 : decode cX9_forget 28 = .ok (.getfield 118, 3) := by decide +kernel
theorem dX9_forget_31 : decode cX9_forget 31 = .ok (.iconst 1, 1) := by decide +kernel
theorem dX9_forget_32 : decode cX9_forget 32 = .ok (.isub, 1) := by decide +kernel
theorem dX9_forget_33 : decode cX9_forget 33 = .ok (.putfield 118, 3) := by decide +kernel
theorem dX9_forget_36 : decode cX9_forget 36 = .ok (.aload_n 0, 1) := by decide +kernel
theorem dX9_forget_37 : decode cX9_forget 37 = .ok (.getfield 10, 3) := by decide +kernel
theorem dX9_forget_40 : decode cX9_forget 40 = .ok (.getfield 114, 3) := by decide +kernel
theorem dX9_forget_43 : decode cX9_forget 43 = .ok (.getfield 118, 3) := by decide +kernel
theorem dX9_forget_46 : decode cX9_forget 46 = .ok (.ireturn, 1) := by decide +kernel
theorem dX9_law_0 : decode cX9_law 0 = .ok (.iload_n 1, 1) := by decide +kernel
theorem dX9_law_1 : decode cX9_law 1 = .ok (.iconst 0, 1) := by decide +kernel
theorem dX9_law_2 : decode cX9_law 2 = .ok (.iconst 4, 1) := by decide +kernel
theorem dX9_law_3 : decode cX9_law 3 = .ok (.invokestatic 43, 3) := by decide +kernel
theorem dX9_law_6 : decode cX9_law 6 = .ok (.ifCond .eq 36, 3) := by decide +kernel
theorem dX9_law_9 : decode cX9_law 9 = .ok (.iload_n 3, 1) := by decide +kernel
theorem dX9_law_10 : decode cX9_law 10 = .ok (.invokestatic 74, 3) := by decide +kernel
theorem dX9_law_13 : decode cX9_law 13 = .ok (.ifCond .eq 29, 3) := by decide +kernel
theorem dX9_law_16 : decode cX9_law 16 = .ok (.iload 4, 2) := by decide +kernel
theorem dX9_law_18 : decode cX9_law 18 = .ok (.invokestatic 74, 3) := by decide +kernel
theorem dX9_law_21 : decode cX9_law 21 = .ok (.ifCond .eq 21, 3) := by decide +kernel
theorem dX9_law_24 : decode cX9_law 24 = .ok (.iload_n 1, 1) := by decide +kernel
theorem dX9_law_25 : decode cX9_law 25 = .ok (.invokestatic 136, 3) := by decide +kernel
theorem dX9_law_28 : decode cX9_law 28 = .ok (.ifCond .eq 21, 3) := by decide +kernel
theorem dX9_law_31 : decode cX9_law 31 = .ok (.iload_n 2, 1) := by decide +kernel
theorem dX9_law_32 : decode cX9_law 32 = .ok (.iconst 0, 1) := by decide +kernel
theorem dX9_law_33 : decode cX9_law 33 = .ok (.sipush 9999, 3) := by decide +kernel
theorem dX9_law_36 : decode cX9_law 36 = .ok (.invokestatic 43, 3) := by decide +kernel
theorem dX9_law_39 : decode cX9_law 39 = .ok (.ifCond .ne 10, 3) := by decide +kernel
theorem dX9_law_42 : decode cX9_law 42 = .ok (.aload_n 0, 1) := by decide +kernel
theorem dX9_law_43 : decode cX9_law 43 = .ok (.ldc 47, 2) := by decide +kernel
theorem dX9_law_45 : decode cX9_law 45 = .ok (.invokevirtual 48, 3) := by decide +kernel
theorem dX9_law_48 : decode cX9_law 48 = .ok (.ireturn, 1) := by decide +kernel
theorem dX9_law_49 : decode cX9_law 49 = .ok (.iload_n 3, 1) := by decide +kernel
theorem dX9_law_50 : decode cX9_law 50 = .ok (.iload 4, 2) := by decide +kernel
theorem dX9_law_52 : decode cX9_law 52 = .ok (.if_icmp .le 10, 3) := by decide +kernel
theorem dX9_law_55 : decode cX9_law 55 = .ok (.aload_n 0, 1) := by decide +kernel
theorem dX9_law_56 : decode cX9_law 56 = .ok (.ldc 69, 2) := by decide +kernel
theorem dX9_law_58 : decode cX9_law 58 = .ok (.invokevirtual 48, 3) := by decide +kernel
theorem dX9_law_61 : decode cX9_law 61 = .ok (.ireturn, 1) := by decide +kernel
theorem dX9_law_62 : decode cX9_law 62 = .ok (.aload_n 0, 1) := by decide +kernel
theorem dX9_law_63 : decode cX9_law 63 = .ok (.getfield 10, 3) := by decide +kernel
theorem dX9_law_66 : decode cX9_law 66 = .ok (.getfield 139, 3) := by decide +kernel
theorem dX9_law_69 : decode cX9_law 69 = .ok (.getfield 143, 3) := by decide +kernel
theorem dX9_law_72 : decode cX9_law 72 = .ok (.bipush 12, 2) := by decide +kernel
theorem dX9_law_74 : decode cX9_law 74 = .ok (.if_icmp .lt 10, 3) := by decide +kernel
theorem dX9_law_77 : decode cX9_law 77 = .ok (.aload_n 0, 1) := by decide +kernel
theorem dX9_law_78 : decode cX9_law 78 = .ok (.ldc 61, 2) := by decide +kernel
theorem dX9_law_80 : decode cX9_law 80 = .ok (.invokevirtual 48, 3) := by decide +kernel
theorem dX9_law_83 : decode cX9_law 83 = .ok (.ireturn, 1) := by decide +kernel
theorem dX9_law_84 : decode cX9_law 84 = .ok (.aload_n 0, 1) := by decide +kernel
theorem dX9_law_85 : decode cX9_law 85 = .ok (.getfield 10, 3) := by decide +kernel
theorem dX9_law_88 : decode cX9_law 88 = .ok (.getfield 139, 3) := by decide +kernel
theorem dX9_law_91 : decode cX9_law 91 = .ok (.iload_n 1, 1) := by decide +kernel
theorem dX9_law_92 : decode cX9_law 92 = .ok (.iload_n 2, 1) := by decide +kernel
theorem dX9_law_93 : decode cX9_law 93 = .ok (.iload_n 3, 1) := by decide +kernel
theorem dX9_law_94 : decode cX9_law 94 = .ok (.iload 4, 2) := by decide +kernel
theorem dX9_law_96 : decode cX9_law 96 = .ok (.invokevirtual 146, 3) := by decide +kernel
theorem dX9_law_99 : decode cX9_law 99 = .ok (.ireturn, 1) := by decide +kernel
theorem dX9_ends_0 : decode cX9_ends 0 = .ok (.aload_n 0, 1) := by decide +kernel
theorem dX9_ends_1 : decode cX9_ends 1 = .ok (.getfield 10, 3) := by decide +kernel
theorem dX9_ends_4 : decode cX9_ends 4 = .ok (.getfield 139, 3) := by decide +kernel
theorem dX9_ends_7 : decode cX9_ends 7 = .ok (.iload_n 1, 1) := by decide +kernel
theorem dX9_ends_8 : decode cX9_ends 8 = .ok (.invokevirtual 149, 3) := by decide +kernel
theorem dX9_ends_11 : decode cX9_ends 11 = .ok (.ifCond .eq 10, 3) := by decide +kernel
theorem dX9_ends_14 : decode cX9_ends 14 = .ok (.iload_n 2, 1) := by decide +kernel
theorem dX9_ends_15 : decode cX9_ends 15 = .ok (.invokestatic 74, 3) := by decide +kernel
theorem dX9_ends_18 : decode cX9_ends 18 = .ok (.ifCond .ne 10, 3) := by decide +kernel
theorem dX9_ends_21 : decode cX9_ends 21 = .ok (.aload_n 0, 1) := by decide +kernel
theorem dX9_ends_22 : decode cX9_ends 22 = .ok (.ldc 47, 2) := by decide +kernel
theorem dX9_ends_24 : decode cX9_ends 24 = .ok (.invokevirtual 48, 3) := by decide +kernel
theorem dX9_ends_27 : decode cX9_ends 27 = .ok (.ireturn, 1) := by decide +kernel
theorem dX9_ends_28 : decode cX9_ends 28 = .ok (.iload_n 2, 1) := by decide +kernel
theorem dX9_ends_29 : decode cX9_ends 29 = .ok (.aload_n 0, 1) := by decide +kernel
theorem dX9_ends_30 : decode cX9_ends 30 = .ok (.getfield 10, 3) := by decide +kernel
theorem dX9_ends_33 : decode cX9_ends 33 = .ok (.getfield 139, 3) := by decide +kernel
theorem dX9_ends_36 : decode cX9_ends 36 = .ok (.getfield 150, 3) := by decide +kernel
theorem dX9_ends_39 : decode cX9_ends 39 = .ok (.iload_n 1, 1) := by decide +kernel
theorem dX9_ends_40 : decode cX9_ends 40 = .ok (.iaload, 1) := by decide +kernel
theorem dX9_ends_41 : decode cX9_ends 41 = .ok (.if_icmp .ge 10, 3) := by decide +kernel
theorem dX9_ends_44 : decode cX9_ends 44 = .ok (.aload_n 0, 1) := by decide +kernel
theorem dX9_ends_45 : decode cX9_ends 45 = .ok (.ldc 69, 2) := by decide +kernel
theorem dX9_ends_47 : decode cX9_ends 47 = .ok (.invokevirtual 48, 3) := by decide +kernel
theorem dX9_ends_50 : decode cX9_ends 50 = .ok (.ireturn, 1) := by decide +kernel
theorem dX9_ends_51 : decode cX9_ends 51 = .ok (.aload_n 0, 1) := by decide +kernel
theorem dX9_ends_52 : decode cX9_ends 52 = .ok (.getfield 10, 3) := by decide +kernel
theorem dX9_ends_55 : decode cX9_ends 55 = .ok (.getfield 139, 3) := by decide +kernel
theorem dX9_ends_58 : decode cX9_ends 58 = .ok (.getfield 153, 3) := by decide +kernel
theorem dX9_ends_61 : decode cX9_ends 61 = .ok (.iload_n 1, 1) := by decide +kernel
theorem dX9_ends_62 : decode cX9_ends 62 = .ok (.iaload, 1) := by decide +kernel
theorem dX9_ends_63 : decode cX9_ends 63 = .ok (.istore_n 3, 1) := by decide +kernel
theorem dX9_ends_64 : decode cX9_ends 64 = .ok (.aload_n 0, 1) := by decide +kernel
theorem dX9_ends_65 : decode cX9_ends 65 = .ok (.getfield 10, 3) := by decide +kernel
theorem dX9_ends_68 : decode cX9_ends 68 = .ok (.getfield 139, 3) := by decide +kernel
theorem dX9_ends_71 : decode cX9_ends 71 = .ok (.getfield 153, 3) := by decide +kernel
theorem dX9_ends_74 : decode cX9_ends 74 = .ok (.iload_n 1, 1) := by decide +kernel
theorem dX9_ends_75 : decode cX9_ends 75 = .ok (.iload_n 2, 1) := by decide +kernel
theorem dX9_ends_76 : decode cX9_ends 76 = .ok (.iastore, 1) := by decide +kernel
theorem dX9_ends_77 : decode cX9_ends 77 = .ok (.iload_n 3, 1) := by decide +kernel
theorem dX9_ends_78 : decode cX9_ends 78 = .ok (.ireturn, 1) := by decide +kernel
theorem dX9_own_0 : decode cX9_own 0 = .ok (.aload_n 0, 1) := by decide +kernel
theorem dX9_own_1 : decode cX9_own 1 = .ok (.iload_n 1, 1) := by decide +kernel
theorem dX9_own_2 : decode cX9_own 2 = .ok (.iload_n 2, 1) := by decide +kernel
theorem dX9_own_3 : decode cX9_own 3 = .ok (.iload_n 3, 1) := by decide +kernel
theorem dX9_own_4 : decode cX9_own 4 = .ok (.invokevirtual 156, 3) := by decide +kernel
theorem dX9_own_7 : decode cX9_own 7 = .ok (.ifCond .ne 10, 3) := by decide +kernel
theorem dX9_own_10 : decode cX9_own 10 = .ok (.aload_n 0, 1) := by decide +kernel
theorem dX9_own_11 : decode cX9_own 11 = .ok (.ldc 47, 2) := by decide +kernel
theorem dX9_own_13 : decode cX9_own 13 = .ok (.invokevirtual 48, 3) := by decide +kernel
theorem dX9_own_16 : decode cX9_own 16 = .ok (.ireturn, 1) := by decide +kernel
theorem dX9_own_17 : decode cX9_own 17 = .ok (.aload_n 0, 1) := by decide +kernel
theorem dX9_own_18 : decode cX9_own 18 = .ok (.aload_n 0, 1) := by decide +kernel
theorem dX9_own_19 : decode cX9_own 19 = .ok (.getfield 24, 3) := by decide +kernel
theorem dX9_own_22 : decode cX9_own 22 = .ok (.iload_n 1, 1) := by decide +kernel
theorem dX9_own_23 : decode cX9_own 23 = .ok (.iload_n 2, 1) := by decide +kernel
theorem dX9_own_24 : decode cX9_own 24 = .ok (.iload_n 3, 1) := by decide +kernel
theorem dX9_own_25 : decode cX9_own 25 = .ok (.invokevirtual 159, 3) := by decide +kernel
theorem dX9_own_28 : decode cX9_own 28 = .ok (.invokevirtual 162, 3) := by decide +kernel
theorem dX9_own_31 : decode cX9_own 31 = .ok (.ireturn, 1) := by decide +kernel
theorem dX9_settlement_0 : decode cX9_settlement 0 = .ok (.aload_n 0, 1) := by decide +kernel
theorem dX9_settlement_1 : decode cX9_settlement 1 = .ok (.iload_n 1, 1) := by decide +kernel
theorem dX9_settlement_2 : decode cX9_settlement 2 = .ok (.iload_n 2, 1) := by decide +kernel
theorem dX9_settlement_3 : decode cX9_settlement 3 = .ok (.iload_n 3, 1) := by decide +kernel
theorem dX9_settlement_4 : decode cX9_settlement 4 = .ok (.invokevirtual 156, 3) := by decide +kernel
theorem dX9_settlement_7 : decode cX9_settlement 7 = .ok (.ifCond .ne 10, 3) := by decide +kernel
theorem dX9_settlement_10 : decode cX9_settlement 10 = .ok (.aload_n 0, 1) := by decide +kernel
theorem dX9_settlement_11 : decode cX9_settlement 11 = .ok (.ldc 47, 2) := by decide +kernel
theorem dX9_settlement_13 : decode cX9_settlement 13 = .ok (.invokevirtual 48, 3) := by decide +kernel
theorem dX9_settlement_16 : decode cX9_settlement 16 = .ok (.ireturn, 1) := by decide +kernel
theorem dX9_settlement_17 : decode cX9_settlement 17 = .ok (.aload_n 0, 1) := by decide +kernel
theorem dX9_settlement_18 : decode cX9_settlement 18 = .ok (.aload_n 0, 1) := by decide +kernel
theorem dX9_settlement_19 : decode cX9_settlement 19 = .ok (.getfield 24, 3) := by decide +kernel
theorem dX9_settlement_22 : decode cX9_settlement 22 = .ok (.iload_n 1, 1) := by decide +kernel
theorem dX9_settlement_23 : decode cX9_settlement 23 = .ok (.iload_n 2, 1) := by decide +kernel
theorem dX9_settlement_24 : decode cX9_settlement 24 = .ok (.iload_n 3, 1) := by decide +kernel
theorem dX9_settlement_25 : decode cX9_settlement 25 = .ok (.invokevirtual 165, 3) := by decide +kernel
theorem dX9_settlement_28 : decode cX9_settlement 28 = .ok (.invokevirtual 162, 3) := by decide +kernel
theorem dX9_settlement_31 : decode cX9_settlement 31 = .ok (.ireturn, 1) := by decide +kernel
theorem dX9_through_0 : decode cX9_through 0 = .ok (.aload_n 0, 1) := by decide +kernel
theorem dX9_through_1 : decode cX9_through 1 = .ok (.iload_n 1, 1) := by decide +kernel
theorem dX9_through_2 : decode cX9_through 2 = .ok (.iload_n 2, 1) := by decide +kernel
theorem dX9_through_3 : decode cX9_through 3 = .ok (.iload_n 3, 1) := by decide +kernel
theorem dX9_through_4 : decode cX9_through 4 = .ok (.invokevirtual 156, 3) := by decide +kernel
theorem dX9_through_7 : decode cX9_through 7 = .ok (.ifCond .ne 10, 3) := by decide +kernel
theorem dX9_through_10 : decode cX9_through 10 = .ok (.aload_n 0, 1) := by decide +kernel
theorem dX9_through_11 : decode cX9_through 11 = .ok (.ldc 47, 2) := by decide +kernel
theorem dX9_through_13 : decode cX9_through 13 = .ok (.invokevirtual 48, 3) := by decide +kernel
theorem dX9_through_16 : decode cX9_through 16 = .ok (.ireturn, 1) := by decide +kernel
theorem dX9_through_17 : decode cX9_through 17 = .ok (.aload_n 0, 1) := by decide +kernel
theorem dX9_through_18 : decode cX9_through 18 = .ok (.getfield 24, 3) := by decide +kernel
theorem dX9_through_21 : decode cX9_through 21 = .ok (.iload_n 1, 1) := by decide +kernel
theorem dX9_through_22 : decode cX9_through 22 = .ok (.iload_n 2, 1) := by decide +kernel
theorem dX9_through_23 : decode cX9_through 23 = .ok (.iload_n 3, 1) := by decide +kernel
theorem dX9_through_24 : decode cX9_through 24 = .ok (.invokevirtual 168, 3) := by decide +kernel
theorem dX9_through_27 : decode cX9_through 27 = .ok (.ireturn, 1) := by decide +kernel
theorem dX9_could_0 : decode cX9_could 0 = .ok (.aload_n 0, 1) := by decide +kernel
theorem dX9_could_1 : decode cX9_could 1 = .ok (.iload_n 1, 1) := by decide +kernel
theorem dX9_could_2 : decode cX9_could 2 = .ok (.iload_n 2, 1) := by decide +kernel
theorem dX9_could_3 : decode cX9_could 3 = .ok (.iload_n 3, 1) := by decide +kernel
theorem dX9_could_4 : decode cX9_could 4 = .ok (.invokevirtual 156, 3) := by decide +kernel
theorem dX9_could_7 : decode cX9_could 7 = .ok (.ifCond .ne 10, 3) := by decide +kernel
theorem dX9_could_10 : decode cX9_could 10 = .ok (.aload_n 0, 1) := by decide +kernel
theorem dX9_could_11 : decode cX9_could 11 = .ok (.ldc 47, 2) := by decide +kernel
theorem dX9_could_13 : decode cX9_could 13 = .ok (.invokevirtual 48, 3) := by decide +kernel
theorem dX9_could_16 : decode cX9_could 16 = .ok (.ireturn, 1) := by decide +kernel
theorem dX9_could_17 : decode cX9_could 17 = .ok (.aload_n 0, 1) := by decide +kernel
theorem dX9_could_18 : decode cX9_could 18 = .ok (.getfield 24, 3) := by decide +kernel
theorem dX9_could_21 : decode cX9_could 21 = .ok (.iload_n 1, 1) := by decide +kernel
theorem dX9_could_22 : decode cX9_could 22 = .ok (.iload_n 2, 1) := by decide +kernel
theorem dX9_could_23 : decode cX9_could 23 = .ok (.iload_n 3, 1) := by decide +kernel
theorem dX9_could_24 : decode cX9_could 24 = .ok (.invokevirtual 171, 3) := by decide +kernel
theorem dX9_could_27 : decode cX9_could 27 = .ok (.ireturn, 1) := by decide +kernel
theorem dX9_question_0 : decode cX9_question 0 = .ok (.aload_n 0, 1) := by decide +kernel
theorem dX9_question_1 : decode cX9_question 1 = .ok (.iload_n 1, 1) := by decide +kernel
theorem dX9_question_2 : decode cX9_question 2 = .ok (.iload_n 2, 1) := by decide +kernel
theorem dX9_question_3 : decode cX9_question 3 = .ok (.iload_n 3, 1) := by decide +kernel
theorem dX9_question_4 : decode cX9_question 4 = .ok (.invokevirtual 156, 3) := by decide +kernel
theorem dX9_question_7 : decode cX9_question 7 = .ok (.ifCond .ne 10, 3) := by decide +kernel
theorem dX9_question_10 : decode cX9_question 10 = .ok (.aload_n 0, 1) := by decide +kernel
theorem dX9_question_11 : decode cX9_question 11 = .ok (.ldc 47, 2) := by decide +kernel
theorem dX9_question_13 : decode cX9_question 13 = .ok (.invokevirtual 48, 3) := by decide +kernel
theorem dX9_question_16 : decode cX9_question 16 = .ok (.ireturn, 1) := by decide +kernel
theorem dX9_question_17 : decode cX9_question 17 = .ok (.aload_n 0, 1) := by decide +kernel
theorem dX9_question_18 : decode cX9_question 18 = .ok (.getfield 10, 3) := by decide +kernel
theorem dX9_question_21 : decode cX9_question 21 = .ok (.getfield 114, 3) := by decide +kernel
theorem dX9_question_24 : decode cX9_question 24 = .ok (.invokevirtual 128, 3) := by decide +kernel
theorem dX9_question_27 : decode cX9_question 27 = .ok (.ifCond .ne 10, 3) := by decide +kernel
theorem dX9_question_30 : decode cX9_question 30 = .ok (.aload_n 0, 1) := by decide +kernel
theorem dX9_question_31 : decode cX9_question 31 = .ok (.ldc 135, 2) := by decide +kernel
theorem dX9_question_33 : decode cX9_question 33 = .ok (.invokevirtual 48, 3) := by decide +kernel
theorem dX9_question_36 : decode cX9_question 36 = .ok (.ireturn, 1) := by decide +kernel
theorem dX9_question_37 : decode cX9_question 37 = .ok (.aload_n 0, 1) := by decide +kernel
theorem dX9_question_38 : decode cX9_question 38 = .ok (.getfield 24, 3) := by decide +kernel
theorem dX9_question_41 : decode cX9_question 41 = .ok (.iload_n 1, 1) := by decide +kernel
theorem dX9_question_42 : decode cX9_question 42 = .ok (.iload_n 2, 1) := by decide +kernel
theorem dX9_question_43 : decode cX9_question 43 = .ok (.iload_n 3, 1) := by decide +kernel
theorem dX9_question_44 : decode cX9_question 44 = .ok (.invokevirtual 174, 3) := by decide +kernel
theorem dX9_question_47 : decode cX9_question 47 = .ok (.ireturn, 1) := by decide +kernel
theorem dX9_order_0 : decode cX9_order 0 = .ok (.aload_n 0, 1) := by decide +kernel
theorem dX9_order_1 : decode cX9_order 1 = .ok (.getfield 10, 3) := by decide +kernel
theorem dX9_order_4 : decode cX9_order 4 = .ok (.getfield 77, 3) := by decide +kernel
theorem dX9_order_7 : decode cX9_order 7 = .ok (.iload_n 1, 1) := by decide +kernel
theorem dX9_order_8 : decode cX9_order 8 = .ok (.invokevirtual 97, 3) := by decide +kernel
theorem dX9_order_11 : decode cX9_order 11 = .ok (.ifCond .eq 39, 3) := by decide +kernel
theorem dX9_order_14 : decode cX9_order 14 = .ok (.aload_n 0, 1) := by decide +kernel
theorem dX9_order_15 : decode cX9_order 15 = .ok (.getfield 10, 3) := by decide +kernel
theorem dX9_order_18 : decode cX9_order 18 = .ok (.getfield 52, 3) := by decide +kernel
theorem dX9_order_21 : decode cX9_order 21 = .ok (.iload_n 2, 1) := by decide +kernel
theorem dX9_order_22 : decode cX9_order 22 = .ok (.invokevirtual 65, 3) := by decide +kernel
theorem dX9_order_25 : decode cX9_order 25 = .ok (.ifCond .eq 25, 3) := by decide +kernel
theorem dX9_order_28 : decode cX9_order 28 = .ok (.aload_n 0, 1) := by decide +kernel
theorem dX9_order_29 : decode cX9_order 29 = .ok (.getfield 10, 3) := by decide +kernel
theorem dX9_order_32 : decode cX9_order 32 = .ok (.getfield 52, 3) := by decide +kernel
theorem dX9_order_35 : decode cX9_order 35 = .ok (.iload_n 3, 1) := by decide +kernel
theorem dX9_order_36 : decode cX9_order 36 = .ok (.invokevirtual 65, 3) := by decide +kernel
theorem dX9_order_39 : decode cX9_order 39 = .ok (.ifCond .eq 11, 3) := by decide +kernel
theorem dX9_order_42 : decode cX9_order 42 = .ok (.iload 4, 2) := by decide +kernel
theorem dX9_order_44 : decode cX9_order 44 = .ok (.invokestatic 74, 3) := by decide +kernel
theorem dX9_order_47 : decode cX9_order 47 = .ok (.ifCond .ne 10, 3) := by decide +kernel
theorem dX9_order_50 : decode cX9_order 50 = .ok (.aload_n 0, 1) := by decide +kernel
theorem dX9_order_51 : decode cX9_order 51 = .ok (.ldc 47, 2) := by decide +kernel
theorem dX9_order_53 : decode cX9_order 53 = .ok (.invokevirtual 48, 3) := by decide +kernel
theorem dX9_order_56 : decode cX9_order 56 = .ok (.ireturn, 1) := by decide +kernel
theorem dX9_order_57 : decode cX9_order 57 = .ok (.iload_n 2, 1) := by decide +kernel
theorem dX9_order_58 : decode cX9_order 58 = .ok (.iload_n 3, 1) := by decide +kernel
theorem dX9_order_59 : decode cX9_order 59 = .ok (.if_icmp .ne 10, 3) := by decide +kernel
theorem dX9_order_62 : decode cX9_order 62 = .ok (.aload_n 0, 1) := by decide +kernel
theorem dX9_order_63 : decode cX9_order 63 = .ok (.ldc 69, 2) := by decide +kernel
theorem dX9_order_65 : decode cX9_order 65 = .ok (.invokevirtual 48, 3) := by decide +kernel
theorem dX9_order_68 : decode cX9_order 68 = .ok (.ireturn, 1) := by decide +kernel
theorem dX9_order_69 : decode cX9_order 69 = .ok (.aload_n 0, 1) := by decide +kernel
theorem dX9_order_70 : decode cX9_order 70 = .ok (.getfield 10, 3) := by decide +kernel
theorem dX9_order_73 : decode cX9_order 73 = .ok (.getfield 177, 3) := by decide +kernel
theorem dX9_order_76 : decode cX9_order 76 = .ok (.getfield 181, 3) := by decide +kernel
theorem dX9_order_79 : decode cX9_order 79 = .ok (.bipush 20, 2) := by decide +kernel
theorem dX9_order_81 : decode cX9_order 81 = .ok (.if_icmp .lt 10, 3) := by decide +kernel
theorem dX9_order_84 : decode cX9_order 84 = .ok (.aload_n 0, 1) := by decide +kernel
theorem dX9_order_85 : decode cX9_order 85 = .ok (.ldc 61, 2) := by decide +kernel
theorem dX9_order_87 : decode cX9_order 87 = .ok (.invokevirtual 48, 3) := by decide +kernel
theorem dX9_order_90 : decode cX9_order 90 = .ok (.ireturn, 1) := by decide +kernel
theorem dX9_order_91 : decode cX9_order 91 = .ok (.aload_n 0, 1) := by decide +kernel
theorem dX9_order_92 : decode cX9_order 92 = .ok (.getfield 10, 3) := by decide +kernel
theorem dX9_order_95 : decode cX9_order 95 = .ok (.getfield 177, 3) := by decide +kernel
theorem dX9_order_98 : decode cX9_order 98 = .ok (.iload_n 1, 1) := by decide +kernel
theorem dX9_order_99 : decode cX9_order 99 = .ok (.iload_n 2, 1) := by decide +kernel
theorem dX9_order_100 : decode cX9_order 100 = .ok (.iload_n 3, 1) := by decide +kernel
theorem dX9_order_101 : decode cX9_order 101 = .ok (.iload 4, 2) := by decide +kernel
theorem dX9_order_103 : decode cX9_order 103 = .ok (.iconst 4, 1) := by decide +kernel
theorem dX9_order_104 : decode cX9_order 104 = .ok (.aload_n 0, 1) := by decide +kernel
theorem dX9_order_105 : decode cX9_order 105 = .ok (.getfield 10, 3) := by decide +kernel
theorem dX9_order_108 : decode cX9_order 108 = .ok (.getfield 52, 3) := by decide +kernel
theorem dX9_order_111 : decode cX9_order 111 = .ok (.getfield 70, 3) := by decide +kernel
theorem dX9_order_114 : decode cX9_order 114 = .ok (.iload_n 2, 1) := by decide +kernel
theorem dX9_order_115 : decode cX9_order 115 = .ok (.aaload, 1) := by decide +kernel
theorem dX9_order_116 : decode cX9_order 116 = .ok (.iload_n 3, 1) := by decide +kernel
theorem dX9_order_117 : decode cX9_order 117 = .ok (.iaload, 1) := by decide +kernel
theorem dX9_order_118 : decode cX9_order 118 = .ok (.imul, 1) := by decide +kernel
theorem dX9_order_119 : decode cX9_order 119 = .ok (.invokevirtual 184, 3) := by decide +kernel
theorem dX9_order_122 : decode cX9_order 122 = .ok (.ireturn, 1) := by decide +kernel
theorem dX9_appeal_0 : decode cX9_appeal 0 = .ok (.aload_n 0, 1) := by decide +kernel
theorem dX9_appeal_1 : decode cX9_appeal 1 = .ok (.getfield 10, 3) := by decide +kernel
theorem dX9_appeal_4 : decode cX9_appeal 4 = .ok (.getfield 177, 3) := by decide +kernel
theorem dX9_appeal_7 : decode cX9_appeal 7 = .ok (.iload_n 1, 1) := by decide +kernel
theorem dX9_appeal_8 : decode cX9_appeal 8 = .ok (.invokevirtual 187, 3) := by decide +kernel
theorem dX9_appeal_11 : decode cX9_appeal 11 = .ok (.ifCond .eq 10, 3) := by decide +kernel
theorem dX9_appeal_14 : decode cX9_appeal 14 = .ok (.iload_n 2, 1) := by decide +kernel
theorem dX9_appeal_15 : decode cX9_appeal 15 = .ok (.invokestatic 74, 3) := by decide +kernel
theorem dX9_appeal_18 : decode cX9_appeal 18 = .ok (.ifCond .ne 10, 3) := by decide +kernel
theorem dX9_appeal_21 : decode cX9_appeal 21 = .ok (.aload_n 0, 1) := by decide +kernel
theorem dX9_appeal_22 : decode cX9_appeal 22 = .ok (.ldc 47, 2) := by decide +kernel
theorem dX9_appeal_24 : decode cX9_appeal 24 = .ok (.invokevirtual 48, 3) := by decide +kernel
theorem dX9_appeal_27 : decode cX9_appeal 27 = .ok (.ireturn, 1) := by decide +kernel
theorem dX9_appeal_28 : decode cX9_appeal 28 = .ok (.aload_n 0, 1) := by decide +kernel
theorem dX9_appeal_29 : decode cX9_appeal 29 = .ok (.getfield 10, 3) := by decide +kernel
theorem dX9_appeal_32 : decode cX9_appeal 32 = .ok (.getfield 177, 3) := by decide +kernel
theorem dX9_appeal_35 : decode cX9_appeal 35 = .ok (.getfield 188, 3) := by decide +kernel
theorem dX9_appeal_38 : decode cX9_appeal 38 = .ok (.iload_n 1, 1) := by decide +kernel
theorem dX9_appeal_39 : decode cX9_appeal 39 = .ok (.iaload, 1) := by decide +kernel
theorem dX9_appeal_40 : decode cX9_appeal 40 = .ok (.ifCond .eq 10, 3) := by decide +kernel
theorem dX9_appeal_43 : decode cX9_appeal 43 = .ok (.aload_n 0, 1) := by decide +kernel
theorem dX9_appeal_44 : decode cX9_appeal 44 = .ok (.ldc 102, 2) := by decide +kernel
theorem dX9_appeal_46 : decode cX9_appeal 46 = .ok (.invokevirtual 48, 3) := by decide +kernel
theorem dX9_appeal_49 : decode cX9_appeal 49 = .ok (.ireturn, 1) := by decide +kernel
theorem dX9_appeal_50 : decode cX9_appeal 50 = .ok (.aload_n 0, 1) := by decide +kernel
theorem dX9_appeal_51 : decode cX9_appeal 51 = .ok (.getfield 10, 3) := by decide +kernel
theorem dX9_appeal_54 : decode cX9_appeal 54 = .ok (.getfield 177, 3) := by decide +kernel
theorem dX9_appeal_57 : decode cX9_appeal 57 = .ok (.getfield 191, 3) := by decide +kernel
theorem dX9_appeal_60 : decode cX9_appeal 60 = .ok (.iload_n 1, 1) := by decide +kernel
theorem dX9_appeal_61 : decode cX9_appeal 61 = .ok (.iaload, 1) := by decide +kernel
theorem dX9_appeal_62 : decode cX9_appeal 62 = .ok (.istore_n 3, 1) := by decide +kernel
theorem dX9_appeal_63 : decode cX9_appeal 63 = .ok (.iload_n 2, 1) := by decide +kernel
theorem dX9_appeal_64 : decode cX9_appeal 64 = .ok (.iload_n 3, 1) := by decide +kernel
theorem dX9_appeal_65 : decode cX9_appeal 65 = .ok (.if_icmp .lt 16, 3) := by decide +kernel
theorem dX9_appeal_68 : decode cX9_appeal 68 = .ok (.iload_n 2, 1) := by decide +kernel
theorem dX9_appeal_69 : decode cX9_appeal 69 = .ok (.iload_n 3, 1) := by decide +kernel
theorem dX9_appeal_70 : decode cX9_appeal 70 = .ok (.isub, 1) := by decide +kernel
theorem dX9_appeal_71 : decode cX9_appeal 71 = .ok (.aload_n 0, 1) := by decide +kernel
theorem dX9_appeal_72 : decode cX9_appeal 72 = .ok (.getfield 10, 3) := by decide +kernel
theorem dX9_appeal_75 : decode cX9_appeal 75 = .ok (.getfield 194, 3) := by decide +kernel
theorem dX9_appeal_78 : decode cX9_appeal 78 = .ok (.if_icmp .le 10, 3) := by decide +kernel
theorem dX9_appeal_81 : decode cX9_appeal 81 = .ok (.aload_n 0, 1) := by decide +kernel
theorem dX9_appeal_82 : decode cX9_appeal 82 = .ok (.ldc 197, 2) := by decide +kernel
theorem dX9_appeal_84 : decode cX9_appeal 84 = .ok (.invokevirtual 48, 3) := by decide +kernel
theorem dX9_appeal_87 : decode cX9_appeal 87 = .ok (.ireturn, 1) := by decide +kernel
theorem dX9_appeal_88 : decode cX9_appeal 88 = .ok (.aload_n 0, 1) := by decide +kernel
theorem dX9_appeal_89 : decode cX9_appeal 89 = .ok (.getfield 24, 3) := by decide +kernel
theorem dX9_appeal_92 : decode cX9_appeal 92 = .ok (.aload_n 0, 1) := by decide +kernel
theorem dX9_appeal_93 : decode cX9_appeal 93 = .ok (.getfield 10, 3) := by decide +kernel
theorem dX9_appeal_96 : decode cX9_appeal 96 = .ok (.getfield 177, 3) := by decide +kernel
theorem dX9_appeal_99 : decode cX9_appeal 99 = .ok (.getfield 198, 3) := by decide +kernel
theorem dX9_appeal_102 : decode cX9_appeal 102 = .ok (.iload_n 1, 1) := by decide +kernel
theorem dX9_appeal_103 : decode cX9_appeal 103 = .ok (.iaload, 1) := by decide +kernel
theorem dX9_appeal_104 : decode cX9_appeal 104 = .ok (.iload_n 3, 1) := by decide +kernel
theorem dX9_appeal_105 : decode cX9_appeal 105 = .ok (.iload_n 2, 1) := by decide +kernel
theorem dX9_appeal_106 : decode cX9_appeal 106 = .ok (.invokevirtual 165, 3) := by decide +kernel
theorem dX9_appeal_109 : decode cX9_appeal 109 = .ok (.istore 4, 2) := by decide +kernel
theorem dX9_appeal_111 : decode cX9_appeal 111 = .ok (.iload 4, 2) := by decide +kernel
theorem dX9_appeal_113 : decode cX9_appeal 113 = .ok (.aload_n 0, 1) := by decide +kernel
theorem dX9_appeal_114 : decode cX9_appeal 114 = .ok (.getfield 10, 3) := by decide +kernel
theorem dX9_appeal_117 : decode cX9_appeal 117 = .ok (.getfield 177, 3) := by decide +kernel
theorem dX9_appeal_120 : decode cX9_appeal 120 = .ok (.getfield 201, 3) := by decide +kernel
theorem dX9_appeal_123 : decode cX9_appeal 123 = .ok (.iload_n 1, 1) := by decide +kernel
theorem dX9_appeal_124 : decode cX9_appeal 124 = .ok (.iaload, 1) := by decide +kernel
theorem dX9_appeal_125 : decode cX9_appeal 125 = .ok (.if_icmp .ne 7, 3) := by decide +kernel
theorem dX9_appeal_128 : decode cX9_appeal 128 = .ok (.iconst 1, 1) := by decide +kernel
theorem dX9_appeal_129 : decode cX9_appeal 129 = .ok (.goto 4, 3) := by decide +kernel
theorem dX9_appeal_132 : decode cX9_appeal 132 = .ok (.iconst 0, 1) := by decide +kernel
theorem dX9_appeal_133 : decode cX9_appeal 133 = .ok (.istore 5, 2) := by decide +kernel
theorem dX9_appeal_135 : decode cX9_appeal 135 = .ok (.aload_n 0, 1) := by decide +kernel
theorem dX9_appeal_136 : decode cX9_appeal 136 = .ok (.getfield 10, 3) := by decide +kernel
theorem dX9_appeal_139 : decode cX9_appeal 139 = .ok (.getfield 177, 3) := by decide +kernel
theorem dX9_appeal_142 : decode cX9_appeal 142 = .ok (.getfield 188, 3) := by decide +kernel
theorem dX9_appeal_145 : decode cX9_appeal 145 = .ok (.iload_n 1, 1) := by decide +kernel
theorem dX9_appeal_146 : decode cX9_appeal 146 = .ok (.iload 5, 2) := by decide +kernel
theorem dX9_appeal_148 : decode cX9_appeal 148 = .ok (.ifCond .eq 7, 3) := by decide +kernel
theorem dX9_appeal_151 : decode cX9_appeal 151 = .ok (.iconst 1, 1) := by decide +kernel
theorem dX9_appeal_152 : decode cX9_appeal 152 = .ok (.goto 4, 3) := by decide +kernel
theorem dX9_appeal_155 : decode cX9_appeal 155 = .ok (.iconst 2, 1) := by decide +kernel
theorem dX9_appeal_156 : decode cX9_appeal 156 = .ok (.iastore, 1) := by decide +kernel
theorem dX9_appeal_157 : decode cX9_appeal 157 = .ok (.iload 5, 2) := by decide +kernel
theorem dX9_appeal_159 : decode cX9_appeal 159 = .ok (.ifCond .eq 7, 3) := by decide +kernel
theorem dX9_appeal_162 : decode cX9_appeal 162 = .ok (.iconst 0, 1) := by decide +kernel
theorem dX9_appeal_163 : decode cX9_appeal 163 = .ok (.goto 4, 3) := by decide +kernel
theorem dX9_appeal_166 : decode cX9_appeal 166 = .ok (.iconst 1, 1) := by decide +kernel
theorem dX9_appeal_167 : decode cX9_appeal 167 = .ok (.ireturn, 1) := by decide +kernel
theorem dX9_ordered_0 : decode cX9_ordered 0 = .ok (.aload_n 0, 1) := by decide +kernel
theorem dX9_ordered_1 : decode cX9_ordered 1 = .ok (.getfield 10, 3) := by decide +kernel
theorem dX9_ordered_4 : decode cX9_ordered 4 = .ok (.getfield 177, 3) := by decide +kernel
theorem dX9_ordered_7 : decode cX9_ordered 7 = .ok (.iload_n 1, 1) := by decide +kernel
theorem dX9_ordered_8 : decode cX9_ordered 8 = .ok (.invokevirtual 187, 3) := by decide +kernel
theorem dX9_ordered_11 : decode cX9_ordered 11 = .ok (.ifCond .ne 10, 3) := by decide +kernel
theorem dX9_ordered_14 : decode cX9_ordered 14 = .ok (.aload_n 0, 1) := by decide +kernel
theorem dX9_ordered_15 : decode cX9_ordered 15 = .ok (.ldc 47, 2) := by decide +kernel
theorem dX9_ordered_17 : decode cX9_ordered 17 = .ok (.invokevirtual 48, 3) := by decide +kernel
theorem dX9_ordered_20 : decode cX9_ordered 20 = .ok (.ireturn, 1) := by decide +kernel
theorem dX9_ordered_21 : decode cX9_ordered 21 = .ok (.iload_n 2, 1) := by decide +kernel
theorem dX9_ordered_22 : decode cX9_ordered 22 = .ok (.tableswitch 116 0 5 #[38, 51, 64, 77, 90, 103], 38) := by decide +kernel
theorem dX9_ordered_60 : decode cX9_ordered 60 = .ok (.aload_n 0, 1) := by decide +kernel
theorem dX9_ordered_61 : decode cX9_ordered 61 = .ok (.getfield 10, 3) := by decide +kernel
theorem dX9_ordered_64 : decode cX9_ordered 64 = .ok (.getfield 177, 3) := by decide +kernel
theorem dX9_ordered_67 : decode cX9_ordered 67 = .ok (.getfield 198, 3) := by decide +kernel
theorem dX9_ordered_70 : decode cX9_ordered 70 = .ok (.iload_n 1, 1) := by decide +kernel
theorem dX9_ordered_71 : decode cX9_ordered 71 = .ok (.iaload, 1) := by decide +kernel
theorem dX9_ordered_72 : decode cX9_ordered 72 = .ok (.ireturn, 1) := by decide +kernel
theorem dX9_ordered_73 : decode cX9_ordered 73 = .ok (.aload_n 0, 1) := by decide +kernel
theorem dX9_ordered_74 : decode cX9_ordered 74 = .ok (.getfield 10, 3) := by decide +kernel
theorem dX9_ordered_77 : decode cX9_ordered 77 = .ok (.getfield 177, 3) := by decide +kernel
theorem dX9_ordered_80 : decode cX9_ordered 80 = .ok (.getfield 202, 3) := by decide +kernel
theorem dX9_ordered_83 : decode cX9_ordered 83 = .ok (.iload_n 1, 1) := by decide +kernel
theorem dX9_ordered_84 : decode cX9_ordered 84 = .ok (.iaload, 1) := by decide +kernel
theorem dX9_ordered_85 : decode cX9_ordered 85 = .ok (.ireturn, 1) := by decide +kernel
theorem dX9_ordered_86 : decode cX9_ordered 86 = .ok (.aload_n 0, 1) := by decide +kernel
theorem dX9_ordered_87 : decode cX9_ordered 87 = .ok (.getfield 10, 3) := by decide +kernel
theorem dX9_ordered_90 : decode cX9_ordered 90 = .ok (.getfield 177, 3) := by decide +kernel
theorem dX9_ordered_93 : decode cX9_ordered 93 = .ok (.getfield 201, 3) := by decide +kernel
theorem dX9_ordered_96 : decode cX9_ordered 96 = .ok (.iload_n 1, 1) := by decide +kernel
theorem dX9_ordered_97 : decode cX9_ordered 97 = .ok (.iaload, 1) := by decide +kernel
theorem dX9_ordered_98 : decode cX9_ordered 98 = .ok (.ireturn, 1) := by decide +kernel
theorem dX9_ordered_99 : decode cX9_ordered 99 = .ok (.aload_n 0, 1) := by decide +kernel
theorem dX9_ordered_100 : decode cX9_ordered 100 = .ok (.getfield 10, 3) := by decide +kernel
theorem dX9_ordered_103 : decode cX9_ordered 103 = .ok (.getfield 177, 3) := by decide +kernel
theorem dX9_ordered_106 : decode cX9_ordered 106 = .ok (.getfield 191, 3) := by decide +kernel
theorem dX9_ordered_109 : decode cX9_ordered 109 = .ok (.iload_n 1, 1) := by decide +kernel
theorem dX9_ordered_110 : decode cX9_ordered 110 = .ok (.iaload, 1) := by decide +kernel
theorem dX9_ordered_111 : decode cX9_ordered 111 = .ok (.ireturn, 1) := by decide +kernel
theorem dX9_ordered_112 : decode cX9_ordered 112 = .ok (.aload_n 0, 1) := by decide +kernel
theorem dX9_ordered_113 : decode cX9_ordered 113 = .ok (.getfield 10, 3) := by decide +kernel
theorem dX9_ordered_116 : decode cX9_ordered 116 = .ok (.getfield 177, 3) := by decide +kernel
theorem dX9_ordered_119 : decode cX9_ordered 119 = .ok (.getfield 203, 3) := by decide +kernel
theorem dX9_ordered_122 : decode cX9_ordered 122 = .ok (.iload_n 1, 1) := by decide +kernel
theorem dX9_ordered_123 : decode cX9_ordered 123 = .ok (.iaload, 1) := by decide +kernel
theorem dX9_ordered_124 : decode cX9_ordered 124 = .ok (.ireturn, 1) := by decide +kernel
theorem dX9_ordered_125 : decode cX9_ordered 125 = .ok (.aload_n 0, 1) := by decide +kernel
theorem dX9_ordered_126 : decode cX9_ordered 126 = .ok (.getfield 10, 3) := by decide +kernel
theorem dX9_ordered_129 : decode cX9_ordered 129 = .ok (.getfield 177, 3) := by decide +kernel
theorem dX9_ordered_132 : decode cX9_ordered 132 = .ok (.getfield 188, 3) := by decide +kernel
theorem dX9_ordered_135 : decode cX9_ordered 135 = .ok (.iload_n 1, 1) := by decide +kernel
theorem dX9_ordered_136 : decode cX9_ordered 136 = .ok (.iaload, 1) := by decide +kernel
theorem dX9_ordered_137 : decode cX9_ordered 137 = .ok (.ireturn, 1) := by decide +kernel
theorem dX9_ordered_138 : decode cX9_ordered 138 = .ok (.aload_n 0, 1) := by decide +kernel
theorem dX9_ordered_139 : decode cX9_ordered 139 = .ok (.ldc 47, 2) := by decide +kernel
theorem dX9_ordered_141 : decode cX9_ordered 141 = .ok (.invokevirtual 48, 3) := by decide +kernel
theorem dX9_ordered_144 : decode cX9_ordered 144 = .ok (.ireturn, 1) := by decide +kernel
theorem dX9_costs_0 : decode cX9_costs 0 = .ok (.aload_n 0, 1) := by decide +kernel
theorem dX9_costs_1 : decode cX9_costs 1 = .ok (.getfield 10, 3) := by decide +kernel
theorem dX9_costs_4 : decode cX9_costs 4 = .ok (.getfield 52, 3) := by decide +kernel
theorem dX9_costs_7 : decode cX9_costs 7 = .ok (.iload_n 1, 1) := by decide +kernel
theorem dX9_costs_8 : decode cX9_costs 8 = .ok (.invokevirtual 65, 3) := by decide +kernel
theorem dX9_costs_11 : decode cX9_costs 11 = .ok (.ifCond .ne 10, 3) := by decide +kernel
theorem dX9_costs_14 : decode cX9_costs 14 = .ok (.aload_n 0, 1) := by decide +kernel
theorem dX9_costs_15 : decode cX9_costs 15 = .ok (.ldc 47, 2) := by decide +kernel
theorem dX9_costs_17 : decode cX9_costs 17 = .ok (.invokevirtual 48, 3) := by decide +kernel
theorem dX9_costs_20 : decode cX9_costs 20 = .ok (.ireturn, 1) := by decide +kernel
theorem dX9_costs_21 : decode cX9_costs 21 = .ok (.aload_n 0, 1) := by decide +kernel
theorem dX9_costs_22 : decode cX9_costs 22 = .ok (.getfield 10, 3) := by decide +kernel
theorem dX9_costs_25 : decode cX9_costs 25 = .ok (.getfield 177, 3) := by decide +kernel
theorem dX9_costs_28 : decode cX9_costs 28 = .ok (.iload_n 1, 1) := by decide +kernel
theorem dX9_costs_29 : decode cX9_costs 29 = .ok (.invokevirtual 206, 3) := by decide +kernel
theorem dX9_costs_32 : decode cX9_costs 32 = .ok (.ireturn, 1) := by decide +kernel
theorem dX9_set_0 : decode cX9_set 0 = .ok (.iload_n 1, 1) := by decide +kernel
theorem dX9_set_1 : decode cX9_set 1 = .ok (.ifCond .ne 32, 3) := by decide +kernel
theorem dX9_set_4 : decode cX9_set 4 = .ok (.iload_n 2, 1) := by decide +kernel
theorem dX9_set_5 : decode cX9_set 5 = .ok (.iconst 0, 1) := by decide +kernel
theorem dX9_set_6 : decode cX9_set 6 = .ok (.sipush 999, 3) := by decide +kernel
theorem dX9_set_9 : decode cX9_set 9 = .ok (.invokestatic 43, 3) := by decide +kernel
theorem dX9_set_12 : decode cX9_set 12 = .ok (.ifCond .eq 21, 3) := by decide +kernel
theorem dX9_set_15 : decode cX9_set 15 = .ok (.aload_n 0, 1) := by decide +kernel
theorem dX9_set_16 : decode cX9_set 16 = .ok (.getfield 10, 3) := by decide +kernel
theorem dX9_set_19 : decode cX9_set 19 = .ok (.getfield 194, 3) := by decide +kernel
theorem dX9_set_22 : decode cX9_set 22 = .ok (.istore_n 3, 1) := by decide +kernel
theorem dX9_set_23 : decode cX9_set 23 = .ok (.aload_n 0, 1) := by decide +kernel
theorem dX9_set_24 : decode cX9_set 24 = .ok (.getfield 10, 3) := by decide +kernel
theorem dX9_set_27 : decode cX9_set 27 = .ok (.iload_n 2, 1) := by decide +kernel
theorem dX9_set_28 : decode cX9_set 28 = .ok (.putfield 194, 3) := by decide +kernel
theorem dX9_set_31 : decode cX9_set 31 = .ok (.iload_n 3, 1) := by decide +kernel
theorem dX9_set_32 : decode cX9_set 32 = .ok (.ireturn, 1) := by decide +kernel
theorem dX9_set_33 : decode cX9_set 33 = .ok (.iload_n 1, 1) := by decide +kernel
theorem dX9_set_34 : decode cX9_set 34 = .ok (.iconst 1, 1) := by decide +kernel
theorem dX9_set_35 : decode cX9_set 35 = .ok (.if_icmp .ne 37, 3) := by decide +kernel
theorem dX9_set_38 : decode cX9_set 38 = .ok (.iload_n 2, 1) := by decide +kernel
theorem dX9_set_39 : decode cX9_set 39 = .ok (.iconst 1, 1) := by decide +kernel
theorem dX9_set_40 : decode cX9_set 40 = .ok (.bipush 20, 2) := by decide +kernel
theorem dX9_set_42 : decode cX9_set 42 = .ok (.invokestatic 43, 3) := by decide +kernel
theorem dX9_set_45 : decode cX9_set 45 = .ok (.ifCond .eq 27, 3) := by decide +kernel
theorem dX9_set_48 : decode cX9_set 48 = .ok (.aload_n 0, 1) := by decide +kernel
theorem dX9_set_49 : decode cX9_set 49 = .ok (.getfield 10, 3) := by decide +kernel
theorem dX9_set_52 : decode cX9_set 52 = .ok (.getfield 87, 3) := by decide +kernel
theorem dX9_set_55 : decode cX9_set 55 = .ok (.getfield 209, 3) := by decide +kernel
theorem dX9_set_58 : decode cX9_set 58 = .ok (.istore_n 3, 1) := by decide +kernel
theorem dX9_set_59 : decode cX9_set 59 = .ok (.aload_n 0, 1) := by decide +kernel
theorem dX9_set_60 : decode cX9_set 60 = .ok (.getfield 10, 3) := by decide +kernel
theorem dX9_set_63 : decode cX9_set 63 = .ok (.getfield 87, 3) := by decide +kernel
theorem dX9_set_66 : decode cX9_set 66 = .ok (.iload_n 2, 1) := by decide +kernel
theorem dX9_set_67 : decode cX9_set 67 = .ok (.putfield 209, 3) := by decide +kernel
theorem dX9_set_70 : decode cX9_set 70 = .ok (.iload_n 3, 1) := by decide +kernel
theorem dX9_set_71 : decode cX9_set 71 = .ok (.ireturn, 1) := by decide +kernel
theorem dX9_set_72 : decode cX9_set 72 = .ok (.aload_n 0, 1) := by decide +kernel
theorem dX9_set_73 : decode cX9_set 73 = .ok (.ldc 47, 2) := by decide +kernel
theorem dX9_set_75 : decode cX9_set 75 = .ok (.invokevirtual 48, 3) := by decide +kernel
theorem dX9_set_78 : decode cX9_set 78 = .ok (.ireturn, 1) := by decide +kernel
theorem dX9_list_0 : decode cX9_list 0 = .ok (.iload_n 2, 1) := by decide +kernel
theorem dX9_list_1 : decode cX9_list 1 = .ok (.iconst (-1), 1) := by decide +kernel
theorem dX9_list_2 : decode cX9_list 2 = .ok (.if_icmp .ne 7, 3) := by decide +kernel
theorem dX9_list_5 : decode cX9_list 5 = .ok (.iconst 1, 1) := by decide +kernel
theorem dX9_list_6 : decode cX9_list 6 = .ok (.goto 4, 3) := by decide +kernel
theorem dX9_list_9 : decode cX9_list 9 = .ok (.iconst 0, 1) := by decide +kernel
theorem dX9_list_10 : decode cX9_list 10 = .ok (.istore 4, 2) := by decide +kernel
theorem dX9_list_12 : decode cX9_list 12 = .ok (.aload_n 0, 1) := by decide +kernel
theorem dX9_list_13 : decode cX9_list 13 = .ok (.getfield 10, 3) := by decide +kernel
theorem dX9_list_16 : decode cX9_list 16 = .ok (.getfield 77, 3) := by decide +kernel
theorem dX9_list_19 : decode cX9_list 19 = .ok (.iload_n 1, 1) := by decide +kernel
theorem dX9_list_20 : decode cX9_list 20 = .ok (.invokevirtual 97, 3) := by decide +kernel
theorem dX9_list_23 : decode cX9_list 23 = .ok (.ifCond .eq 29, 3) := by decide +kernel
theorem dX9_list_26 : decode cX9_list 26 = .ok (.iload 4, 2) := by decide +kernel
theorem dX9_list_28 : decode cX9_list 28 = .ok (.ifCond .ne 31, 3) := by decide +kernel
theorem dX9_list_31 : decode cX9_list 31 = .ok (.aload_n 0, 1) := by decide +kernel
theorem dX9_list_32 : decode cX9_list 32 = .ok (.getfield 10, 3) := by decide +kernel
theorem dX9_list_35 : decode cX9_list 35 = .ok (.getfield 52, 3) := by decide +kernel
theorem dX9_list_38 : decode cX9_list 38 = .ok (.iload_n 2, 1) := by decide +kernel
theorem dX9_list_39 : decode cX9_list 39 = .ok (.invokevirtual 65, 3) := by decide +kernel
theorem dX9_list_42 : decode cX9_list 42 = .ok (.ifCond .eq 10, 3) := by decide +kernel
theorem dX9_list_45 : decode cX9_list 45 = .ok (.iload_n 3, 1) := by decide +kernel
theorem dX9_list_46 : decode cX9_list 46 = .ok (.invokestatic 212, 3) := by decide +kernel
theorem dX9_list_49 : decode cX9_list 49 = .ok (.ifCond .ne 10, 3) := by decide +kernel
theorem dX9_list_52 : decode cX9_list 52 = .ok (.aload_n 0, 1) := by decide +kernel
theorem dX9_list_53 : decode cX9_list 53 = .ok (.ldc 47, 2) := by decide +kernel
theorem dX9_list_55 : decode cX9_list 55 = .ok (.invokevirtual 48, 3) := by decide +kernel
theorem dX9_list_58 : decode cX9_list 58 = .ok (.ireturn, 1) := by decide +kernel
theorem dX9_list_59 : decode cX9_list 59 = .ok (.aload_n 0, 1) := by decide +kernel
theorem dX9_list_60 : decode cX9_list 60 = .ok (.getfield 10, 3) := by decide +kernel
theorem dX9_list_63 : decode cX9_list 63 = .ok (.getfield 87, 3) := by decide +kernel
theorem dX9_list_66 : decode cX9_list 66 = .ok (.getfield 215, 3) := by decide +kernel
theorem dX9_list_69 : decode cX9_list 69 = .ok (.iload_n 1, 1) := by decide +kernel
theorem dX9_list_70 : decode cX9_list 70 = .ok (.iaload, 1) := by decide +kernel
theorem dX9_list_71 : decode cX9_list 71 = .ok (.istore 5, 2) := by decide +kernel
theorem dX9_list_73 : decode cX9_list 73 = .ok (.aload_n 0, 1) := by decide +kernel
theorem dX9_list_74 : decode cX9_list 74 = .ok (.getfield 10, 3) := by decide +kernel
theorem dX9_list_77 : decode cX9_list 77 = .ok (.getfield 87, 3) := by decide +kernel
theorem dX9_list_80 : decode cX9_list 80 = .ok (.getfield 215, 3) := by decide +kernel
theorem dX9_list_83 : decode cX9_list 83 = .ok (.iload_n 1, 1) := by decide +kernel
theorem dX9_list_84 : decode cX9_list 84 = .ok (.iload_n 2, 1) := by decide +kernel
theorem dX9_list_85 : decode cX9_list 85 = .ok (.iastore, 1) := by decide +kernel
theorem dX9_list_86 : decode cX9_list 86 = .ok (.aload_n 0, 1) := by decide +kernel
theorem dX9_list_87 : decode cX9_list 87 = .ok (.getfield 10, 3) := by decide +kernel
theorem dX9_list_90 : decode cX9_list 90 = .ok (.getfield 87, 3) := by decide +kernel
theorem dX9_list_93 : decode cX9_list 93 = .ok (.getfield 218, 3) := by decide +kernel
theorem dX9_list_96 : decode cX9_list 96 = .ok (.iload_n 1, 1) := by decide +kernel
theorem dX9_list_97 : decode cX9_list 97 = .ok (.iload 4, 2) := by decide +kernel
theorem dX9_list_99 : decode cX9_list 99 = .ok (.ifCond .eq 7, 3) := by decide +kernel
theorem dX9_list_102 : decode cX9_list 102 = .ok (.iconst 0, 1) := by decide +kernel
theorem dX9_list_103 : decode cX9_list 103 = .ok (.goto 4, 3) := by decide +kernel
theorem dX9_list_106 : decode cX9_list 106 = .ok (.iload_n 3, 1) := by decide +kernel
theorem dX9_list_107 : decode cX9_list 107 = .ok (.iastore, 1) := by decide +kernel
theorem dX9_list_108 : decode cX9_list 108 = .ok (.iload 5, 2) := by decide +kernel
theorem dX9_list_110 : decode cX9_list 110 = .ok (.ireturn, 1) := by decide +kernel
theorem dX9_earns_0 : decode cX9_earns 0 = .ok (.aload_n 0, 1) := by decide +kernel
theorem dX9_earns_1 : decode cX9_earns 1 = .ok (.getfield 10, 3) := by decide +kernel
theorem dX9_earns_4 : decode cX9_earns 4 = .ok (.getfield 77, 3) := by decide +kernel
theorem dX9_earns_7 : decode cX9_earns 7 = .ok (.iload_n 1, 1) := by decide +kernel
theorem dX9_earns_8 : decode cX9_earns 8 = .ok (.invokevirtual 97, 3) := by decide +kernel
theorem dX9_earns_11 : decode cX9_earns 11 = .ok (.ifCond .eq 14, 3) := by decide +kernel
theorem dX9_earns_14 : decode cX9_earns 14 = .ok (.iload_n 2, 1) := by decide +kernel
theorem dX9_earns_15 : decode cX9_earns 15 = .ok (.iconst 0, 1) := by decide +kernel
theorem dX9_earns_16 : decode cX9_earns 16 = .ok (.sipush 999, 3) := by decide +kernel
theorem dX9_earns_19 : decode cX9_earns 19 = .ok (.invokestatic 43, 3) := by decide +kernel
theorem dX9_earns_22 : decode cX9_earns 22 = .ok (.ifCond .ne 10, 3) := by decide +kernel
theorem dX9_earns_25 : decode cX9_earns 25 = .ok (.aload_n 0, 1) := by decide +kernel
theorem dX9_earns_26 : decode cX9_earns 26 = .ok (.ldc 47, 2) := by decide +kernel
theorem dX9_earns_28 : decode cX9_earns 28 = .ok (.invokevirtual 48, 3) := by decide +kernel
theorem dX9_earns_31 : decode cX9_earns 31 = .ok (.ireturn, 1) := by decide +kernel
theorem dX9_earns_32 : decode cX9_earns 32 = .ok (.aload_n 0, 1) := by decide +kernel
theorem dX9_earns_33 : decode cX9_earns 33 = .ok (.getfield 10, 3) := by decide +kernel
theorem dX9_earns_36 : decode cX9_earns 36 = .ok (.getfield 87, 3) := by decide +kernel
theorem dX9_earns_39 : decode cX9_earns 39 = .ok (.getfield 221, 3) := by decide +kernel
theorem dX9_earns_42 : decode cX9_earns 42 = .ok (.iload_n 1, 1) := by decide +kernel
theorem dX9_earns_43 : decode cX9_earns 43 = .ok (.iaload, 1) := by decide +kernel
theorem dX9_earns_44 : decode cX9_earns 44 = .ok (.istore_n 3, 1) := by decide +kernel
theorem dX9_earns_45 : decode cX9_earns 45 = .ok (.aload_n 0, 1) := by decide +kernel
theorem dX9_earns_46 : decode cX9_earns 46 = .ok (.getfield 10, 3) := by decide +kernel
theorem dX9_earns_49 : decode cX9_earns 49 = .ok (.getfield 87, 3) := by decide +kernel
theorem dX9_earns_52 : decode cX9_earns 52 = .ok (.getfield 221, 3) := by decide +kernel
theorem dX9_earns_55 : decode cX9_earns 55 = .ok (.iload_n 1, 1) := by decide +kernel
theorem dX9_earns_56 : decode cX9_earns 56 = .ok (.iload_n 2, 1) := by decide +kernel
theorem dX9_earns_57 : decode cX9_earns 57 = .ok (.iastore, 1) := by decide +kernel
theorem dX9_earns_58 : decode cX9_earns 58 = .ok (.iload_n 3, 1) := by decide +kernel
theorem dX9_earns_59 : decode cX9_earns 59 = .ok (.ireturn, 1) := by decide +kernel
theorem dX9_price_0 : decode cX9_price 0 = .ok (.iload_n 1, 1) := by decide +kernel
theorem dX9_price_1 : decode cX9_price 1 = .ok (.invokestatic 212, 3) := by decide +kernel
theorem dX9_price_4 : decode cX9_price 4 = .ok (.ifCond .eq 13, 3) := by decide +kernel
theorem dX9_price_7 : decode cX9_price 7 = .ok (.iload_n 2, 1) := by decide +kernel
theorem dX9_price_8 : decode cX9_price 8 = .ok (.iconst 0, 1) := by decide +kernel
theorem dX9_price_9 : decode cX9_price 9 = .ok (.bipush 99, 2) := by decide +kernel
theorem dX9_price_11 : decode cX9_price 11 = .ok (.invokestatic 43, 3) := by decide +kernel
theorem dX9_price_14 : decode cX9_price 14 = .ok (.ifCond .ne 10, 3) := by decide +kernel
theorem dX9_price_17 : decode cX9_price 17 = .ok (.aload_n 0, 1) := by decide +kernel
theorem dX9_price_18 : decode cX9_price 18 = .ok (.ldc 47, 2) := by decide +kernel
theorem dX9_price_20 : decode cX9_price 20 = .ok (.invokevirtual 48, 3) := by decide +kernel
theorem dX9_price_23 : decode cX9_price 23 = .ok (.ireturn, 1) := by decide +kernel
theorem dX9_price_24 : decode cX9_price 24 = .ok (.aload_n 0, 1) := by decide +kernel
theorem dX9_price_25 : decode cX9_price 25 = .ok (.getfield 10, 3) := by decide +kernel
theorem dX9_price_28 : decode cX9_price 28 = .ok (.getfield 87, 3) := by decide +kernel
theorem dX9_price_31 : decode cX9_price 31 = .ok (.getfield 224, 3) := by decide +kernel
theorem dX9_price_34 : decode cX9_price 34 = .ok (.iload_n 1, 1) := by decide +kernel
theorem dX9_price_35 : decode cX9_price 35 = .ok (.iaload, 1) := by decide +kernel
theorem dX9_price_36 : decode cX9_price 36 = .ok (.istore_n 3, 1) := by decide +kernel
theorem dX9_price_37 : decode cX9_price 37 = .ok (.aload_n 0, 1) := by decide +kernel
theorem dX9_price_38 : decode cX9_price 38 = .ok (.getfield 10, 3) := by decide +kernel
theorem dX9_price_41 : decode cX9_price 41 = .ok (.getfield 87, 3) := by decide +kernel
theorem dX9_price_44 : decode cX9_price 44 = .ok (.getfield 224, 3) := by decide +kernel
theorem dX9_price_47 : decode cX9_price 47 = .ok (.iload_n 1, 1) := by decide +kernel
theorem dX9_price_48 : decode cX9_price 48 = .ok (.iload_n 2, 1) := by decide +kernel
theorem dX9_price_49 : decode cX9_price 49 = .ok (.iastore, 1) := by decide +kernel
theorem dX9_price_50 : decode cX9_price 50 = .ok (.iload_n 3, 1) := by decide +kernel
theorem dX9_price_51 : decode cX9_price 51 = .ok (.ireturn, 1) := by decide +kernel
theorem dX9_relief_0 : decode cX9_relief 0 = .ok (.aload_n 0, 1) := by decide +kernel
theorem dX9_relief_1 : decode cX9_relief 1 = .ok (.getfield 10, 3) := by decide +kernel
theorem dX9_relief_4 : decode cX9_relief 4 = .ok (.getfield 77, 3) := by decide +kernel
theorem dX9_relief_7 : decode cX9_relief 7 = .ok (.iload_n 1, 1) := by decide +kernel
theorem dX9_relief_8 : decode cX9_relief 8 = .ok (.invokevirtual 97, 3) := by decide +kernel
theorem dX9_relief_11 : decode cX9_relief 11 = .ok (.ifCond .eq 10, 3) := by decide +kernel
theorem dX9_relief_14 : decode cX9_relief 14 = .ok (.iload_n 2, 1) := by decide +kernel
theorem dX9_relief_15 : decode cX9_relief 15 = .ok (.invokestatic 212, 3) := by decide +kernel
theorem dX9_relief_18 : decode cX9_relief 18 = .ok (.ifCond .ne 10, 3) := by decide +kernel
theorem dX9_relief_21 : decode cX9_relief 21 = .ok (.aload_n 0, 1) := by decide +kernel
theorem dX9_relief_22 : decode cX9_relief 22 = .ok (.ldc 47, 2) := by decide +kernel
theorem dX9_relief_24 : decode cX9_relief 24 = .ok (.invokevirtual 48, 3) := by decide +kernel
theorem dX9_relief_27 : decode cX9_relief 27 = .ok (.ireturn, 1) := by decide +kernel
theorem dX9_relief_28 : decode cX9_relief 28 = .ok (.aload_n 0, 1) := by decide +kernel
theorem dX9_relief_29 : decode cX9_relief 29 = .ok (.getfield 10, 3) := by decide +kernel
theorem dX9_relief_32 : decode cX9_relief 32 = .ok (.getfield 87, 3) := by decide +kernel
theorem dX9_relief_35 : decode cX9_relief 35 = .ok (.iload_n 1, 1) := by decide +kernel
theorem dX9_relief_36 : decode cX9_relief 36 = .ok (.iload_n 2, 1) := by decide +kernel
theorem dX9_relief_37 : decode cX9_relief 37 = .ok (.invokevirtual 227, 3) := by decide +kernel
theorem dX9_relief_40 : decode cX9_relief 40 = .ok (.iconst (-1), 1) := by decide +kernel
theorem dX9_relief_41 : decode cX9_relief 41 = .ok (.if_icmp .ne 10, 3) := by decide +kernel
theorem dX9_relief_44 : decode cX9_relief 44 = .ok (.aload_n 0, 1) := by decide +kernel
theorem dX9_relief_45 : decode cX9_relief 45 = .ok (.ldc 135, 2) := by decide +kernel
theorem dX9_relief_47 : decode cX9_relief 47 = .ok (.invokevirtual 48, 3) := by decide +kernel
theorem dX9_relief_50 : decode cX9_relief 50 = .ok (.ireturn, 1) := by decide +kernel
theorem dX9_relief_51 : decode cX9_relief 51 = .ok (.aload_n 0, 1) := by decide +kernel
theorem dX9_relief_52 : decode cX9_relief 52 = .ok (.getfield 10, 3) := by decide +kernel
theorem dX9_relief_55 : decode cX9_relief 55 = .ok (.getfield 87, 3) := by decide +kernel
theorem dX9_relief_58 : decode cX9_relief 58 = .ok (.getfield 224, 3) := by decide +kernel
theorem dX9_relief_61 : decode cX9_relief 61 = .ok (.iload_n 2, 1) := by decide +kernel
theorem dX9_relief_62 : decode cX9_relief 62 = .ok (.iaload, 1) := by decide +kernel
theorem dX9_relief_63 : decode cX9_relief 63 = .ok (.ifCond .ne 10, 3) := by decide +kernel
theorem dX9_relief_66 : decode cX9_relief 66 = .ok (.aload_n 0, 1) := by decide +kernel
theorem dX9_relief_67 : decode cX9_relief 67 = .ok (.ldc 231, 2) := by decide +kernel
theorem dX9_relief_69 : decode cX9_relief 69 = .ok (.invokevirtual 48, 3) := by decide +kernel
theorem dX9_relief_72 : decode cX9_relief 72 = .ok (.ireturn, 1) := by decide +kernel
theorem dX9_relief_73 : decode cX9_relief 73 = .ok (.aload_n 0, 1) := by decide +kernel
theorem dX9_relief_74 : decode cX9_relief 74 = .ok (.getfield 10, 3) := by decide +kernel
theorem dX9_relief_77 : decode cX9_relief 77 = .ok (.getfield 87, 3) := by decide +kernel
theorem dX9_relief_80 : decode cX9_relief 80 = .ok (.aload_n 0, 1) := by decide +kernel
theorem dX9_relief_81 : decode cX9_relief 81 = .ok (.getfield 10, 3) := by decide +kernel
theorem dX9_relief_84 : decode cX9_relief 84 = .ok (.getfield 77, 3) := by decide +kernel
theorem dX9_relief_87 : decode cX9_relief 87 = .ok (.iload_n 1, 1) := by decide +kernel
theorem dX9_relief_88 : decode cX9_relief 88 = .ok (.iload_n 2, 1) := by decide +kernel
theorem dX9_relief_89 : decode cX9_relief 89 = .ok (.invokevirtual 232, 3) := by decide +kernel
theorem dX9_relief_92 : decode cX9_relief 92 = .ok (.ireturn, 1) := by decide +kernel
theorem dX9_week_0 : decode cX9_week 0 = .ok (.aload_n 0, 1) := by decide +kernel
theorem dX9_week_1 : decode cX9_week 1 = .ok (.getfield 10, 3) := by decide +kernel
theorem dX9_week_4 : decode cX9_week 4 = .ok (.getfield 52, 3) := by decide +kernel
theorem dX9_week_7 : decode cX9_week 7 = .ok (.iload_n 1, 1) := by decide +kernel
theorem dX9_week_8 : decode cX9_week 8 = .ok (.invokevirtual 65, 3) := by decide +kernel
theorem dX9_week_11 : decode cX9_week 11 = .ok (.ifCond .eq 10, 3) := by decide +kernel
theorem dX9_week_14 : decode cX9_week 14 = .ok (.iload_n 2, 1) := by decide +kernel
theorem dX9_week_15 : decode cX9_week 15 = .ok (.invokestatic 212, 3) := by decide +kernel
theorem dX9_week_18 : decode cX9_week 18 = .ok (.ifCond .ne 10, 3) := by decide +kernel
theorem dX9_week_21 : decode cX9_week 21 = .ok (.aload_n 0, 1) := by decide +kernel
theorem dX9_week_22 : decode cX9_week 22 = .ok (.ldc 47, 2) := by decide +kernel
theorem dX9_week_24 : decode cX9_week 24 = .ok (.invokevirtual 48, 3) := by decide +kernel
theorem dX9_week_27 : decode cX9_week 27 = .ok (.ireturn, 1) := by decide +kernel
theorem dX9_week_28 : decode cX9_week 28 = .ok (.aload_n 0, 1) := by decide +kernel
theorem dX9_week_29 : decode cX9_week 29 = .ok (.getfield 10, 3) := by decide +kernel
theorem dX9_week_32 : decode cX9_week 32 = .ok (.getfield 87, 3) := by decide +kernel
theorem dX9_week_35 : decode cX9_week 35 = .ok (.getfield 224, 3) := by decide +kernel
theorem dX9_week_38 : decode cX9_week 38 = .ok (.iload_n 2, 1) := by decide +kernel
theorem dX9_week_39 : decode cX9_week 39 = .ok (.iaload, 1) := by decide +kernel
theorem dX9_week_40 : decode cX9_week 40 = .ok (.ifCond .ne 10, 3) := by decide +kernel
theorem dX9_week_43 : decode cX9_week 43 = .ok (.aload_n 0, 1) := by decide +kernel
theorem dX9_week_44 : decode cX9_week 44 = .ok (.ldc 231, 2) := by decide +kernel
theorem dX9_week_46 : decode cX9_week 46 = .ok (.invokevirtual 48, 3) := by decide +kernel
theorem dX9_week_49 : decode cX9_week 49 = .ok (.ireturn, 1) := by decide +kernel
theorem dX9_week_50 : decode cX9_week 50 = .ok (.aload_n 0, 1) := by decide +kernel
theorem dX9_week_51 : decode cX9_week 51 = .ok (.getfield 10, 3) := by decide +kernel
theorem dX9_week_54 : decode cX9_week 54 = .ok (.getfield 87, 3) := by decide +kernel
theorem dX9_week_57 : decode cX9_week 57 = .ok (.aload_n 0, 1) := by decide +kernel
theorem dX9_week_58 : decode cX9_week 58 = .ok (.getfield 10, 3) := by decide +kernel
theorem dX9_week_61 : decode cX9_week 61 = .ok (.getfield 77, 3) := by decide +kernel
theorem dX9_week_64 : decode cX9_week 64 = .ok (.iload_n 1, 1) := by decide +kernel
theorem dX9_week_65 : decode cX9_week 65 = .ok (.iload_n 2, 1) := by decide +kernel
theorem dX9_week_66 : decode cX9_week 66 = .ok (.invokevirtual 236, 3) := by decide +kernel
theorem dX9_week_69 : decode cX9_week 69 = .ok (.ireturn, 1) := by decide +kernel
theorem dX9_rate_0 : decode cX9_rate 0 = .ok (.aload_n 0, 1) := by decide +kernel
theorem dX9_rate_1 : decode cX9_rate 1 = .ok (.getfield 10, 3) := by decide +kernel
theorem dX9_rate_4 : decode cX9_rate 4 = .ok (.getfield 52, 3) := by decide +kernel
theorem dX9_rate_7 : decode cX9_rate 7 = .ok (.iload_n 1, 1) := by decide +kernel
theorem dX9_rate_8 : decode cX9_rate 8 = .ok (.invokevirtual 65, 3) := by decide +kernel
theorem dX9_rate_11 : decode cX9_rate 11 = .ok (.ifCond .eq 14, 3) := by decide +kernel
theorem dX9_rate_14 : decode cX9_rate 14 = .ok (.iload_n 2, 1) := by decide +kernel
theorem dX9_rate_15 : decode cX9_rate 15 = .ok (.iconst 0, 1) := by decide +kernel
theorem dX9_rate_16 : decode cX9_rate 16 = .ok (.sipush 10000, 3) := by decide +kernel
theorem dX9_rate_19 : decode cX9_rate 19 = .ok (.invokestatic 43, 3) := by decide +kernel
theorem dX9_rate_22 : decode cX9_rate 22 = .ok (.ifCond .ne 10, 3) := by decide +kernel
theorem dX9_rate_25 : decode cX9_rate 25 = .ok (.aload_n 0, 1) := by decide +kernel
theorem dX9_rate_26 : decode cX9_rate 26 = .ok (.ldc 47, 2) := by decide +kernel
theorem dX9_rate_28 : decode cX9_rate 28 = .ok (.invokevirtual 48, 3) := by decide +kernel
theorem dX9_rate_31 : decode cX9_rate 31 = .ok (.ireturn, 1) := by decide +kernel
theorem dX9_rate_32 : decode cX9_rate 32 = .ok (.aload_n 0, 1) := by decide +kernel
theorem dX9_rate_33 : decode cX9_rate 33 = .ok (.getfield 10, 3) := by decide +kernel
theorem dX9_rate_36 : decode cX9_rate 36 = .ok (.getfield 52, 3) := by decide +kernel
theorem dX9_rate_39 : decode cX9_rate 39 = .ok (.invokevirtual 239, 3) := by decide +kernel
theorem dX9_rate_42 : decode cX9_rate 42 = .ok (.istore_n 3, 1) := by decide +kernel
theorem dX9_rate_43 : decode cX9_rate 43 = .ok (.iload_n 3, 1) := by decide +kernel
theorem dX9_rate_44 : decode cX9_rate 44 = .ok (.ifCond .gt 10, 3) := by decide +kernel
theorem dX9_rate_47 : decode cX9_rate 47 = .ok (.aload_n 0, 1) := by decide +kernel
theorem dX9_rate_48 : decode cX9_rate 48 = .ok (.ldc 135, 2) := by decide +kernel
theorem dX9_rate_50 : decode cX9_rate 50 = .ok (.invokevirtual 48, 3) := by decide +kernel
theorem dX9_rate_53 : decode cX9_rate 53 = .ok (.ireturn, 1) := by decide +kernel
theorem dX9_rate_54 : decode cX9_rate 54 = .ok (.aload_n 0, 1) := by decide +kernel
theorem dX9_rate_55 : decode cX9_rate 55 = .ok (.getfield 10, 3) := by decide +kernel
theorem dX9_rate_58 : decode cX9_rate 58 = .ok (.getfield 52, 3) := by decide +kernel
theorem dX9_rate_61 : decode cX9_rate 61 = .ok (.iload_n 1, 1) := by decide +kernel
theorem dX9_rate_62 : decode cX9_rate 62 = .ok (.iload_n 2, 1) := by decide +kernel
theorem dX9_rate_63 : decode cX9_rate 63 = .ok (.iload_n 3, 1) := by decide +kernel
theorem dX9_rate_64 : decode cX9_rate 64 = .ok (.invokevirtual 242, 3) := by decide +kernel
theorem dX9_rate_67 : decode cX9_rate 67 = .ok (.ireturn, 1) := by decide +kernel
theorem dX9_sheet_0 : decode cX9_sheet 0 = .ok (.iload_n 1, 1) := by decide +kernel
theorem dX9_sheet_1 : decode cX9_sheet 1 = .ok (.invokestatic 245, 3) := by decide +kernel
theorem dX9_sheet_4 : decode cX9_sheet 4 = .ok (.ifCond .eq 25, 3) := by decide +kernel
theorem dX9_sheet_7 : decode cX9_sheet 7 = .ok (.iload_n 2, 1) := by decide +kernel
theorem dX9_sheet_8 : decode cX9_sheet 8 = .ok (.ifCond .eq 28, 3) := by decide +kernel
theorem dX9_sheet_11 : decode cX9_sheet 11 = .ok (.iload_n 2, 1) := by decide +kernel
theorem dX9_sheet_12 : decode cX9_sheet 12 = .ok (.bipush 8, 2) := by decide +kernel
theorem dX9_sheet_14 : decode cX9_sheet 14 = .ok (.if_icmp .eq 22, 3) := by decide +kernel
theorem dX9_sheet_17 : decode cX9_sheet 17 = .ok (.iload_n 2, 1) := by decide +kernel
theorem dX9_sheet_18 : decode cX9_sheet 18 = .ok (.bipush 16, 2) := by decide +kernel
theorem dX9_sheet_20 : decode cX9_sheet 20 = .ok (.if_icmp .eq 16, 3) := by decide +kernel
theorem dX9_sheet_23 : decode cX9_sheet 23 = .ok (.iload_n 2, 1) := by decide +kernel
theorem dX9_sheet_24 : decode cX9_sheet 24 = .ok (.bipush 32, 2) := by decide +kernel
theorem dX9_sheet_26 : decode cX9_sheet 26 = .ok (.if_icmp .eq 10, 3) := by decide +kernel
theorem dX9_sheet_29 : decode cX9_sheet 29 = .ok (.aload_n 0, 1) := by decide +kernel
theorem dX9_sheet_30 : decode cX9_sheet 30 = .ok (.ldc 47, 2) := by decide +kernel
theorem dX9_sheet_32 : decode cX9_sheet 32 = .ok (.invokevirtual 48, 3) := by decide +kernel
theorem dX9_sheet_35 : decode cX9_sheet 35 = .ok (.ireturn, 1) := by decide +kernel
theorem dX9_sheet_36 : decode cX9_sheet 36 = .ok (.iload_n 3, 1) := by decide +kernel
theorem dX9_sheet_37 : decode cX9_sheet 37 = .ok (.ifCond .ge 10, 3) := by decide +kernel
theorem dX9_sheet_40 : decode cX9_sheet 40 = .ok (.aload_n 0, 1) := by decide +kernel
theorem dX9_sheet_41 : decode cX9_sheet 41 = .ok (.ldc 69, 2) := by decide +kernel
theorem dX9_sheet_43 : decode cX9_sheet 43 = .ok (.invokevirtual 48, 3) := by decide +kernel
theorem dX9_sheet_46 : decode cX9_sheet 46 = .ok (.ireturn, 1) := by decide +kernel
theorem dX9_sheet_47 : decode cX9_sheet 47 = .ok (.iload_n 3, 1) := by decide +kernel
theorem dX9_sheet_48 : decode cX9_sheet 48 = .ok (.bipush 60, 2) := by decide +kernel
theorem dX9_sheet_50 : decode cX9_sheet 50 = .ok (.if_icmp .le 10, 3) := by decide +kernel
theorem dX9_sheet_53 : decode cX9_sheet 53 = .ok (.aload_n 0, 1) := by decide +kernel
theorem dX9_sheet_54 : decode cX9_sheet 54 = .ok (.ldc 47, 2) := by decide +kernel
theorem dX9_sheet_56 : decode cX9_sheet 56 = .ok (.invokevirtual 48, 3) := by decide +kernel
theorem dX9_sheet_59 : decode cX9_sheet 59 = .ok (.ireturn, 1) := by decide +kernel
theorem dX9_sheet_60 : decode cX9_sheet 60 = .ok (.aload_n 0, 1) := by decide +kernel
theorem dX9_sheet_61 : decode cX9_sheet 61 = .ok (.getfield 30, 3) := by decide +kernel
theorem dX9_sheet_64 : decode cX9_sheet 64 = .ok (.iload_n 1, 1) := by decide +kernel
theorem dX9_sheet_65 : decode cX9_sheet 65 = .ok (.aaload, 1) := by decide +kernel
theorem dX9_sheet_66 : decode cX9_sheet 66 = .ok (.iload_n 2, 1) := by decide +kernel
theorem dX9_sheet_67 : decode cX9_sheet 67 = .ok (.iload_n 2, 1) := by decide +kernel
theorem dX9_sheet_68 : decode cX9_sheet 68 = .ok (.ifCond .ne 7, 3) := by decide +kernel
theorem dX9_sheet_71 : decode cX9_sheet 71 = .ok (.iconst 0, 1) := by decide +kernel
theorem dX9_sheet_72 : decode cX9_sheet 72 = .ok (.goto 4, 3) := by decide +kernel
theorem dX9_sheet_75 : decode cX9_sheet 75 = .ok (.iload_n 3, 1) := by decide +kernel
theorem dX9_sheet_76 : decode cX9_sheet 76 = .ok (.invokevirtual 248, 3) := by decide +kernel
theorem dX9_sheet_79 : decode cX9_sheet 79 = .ok (.aload_n 0, 1) := by decide +kernel
theorem dX9_sheet_80 : decode cX9_sheet 80 = .ok (.getfield 30, 3) := by decide +kernel
theorem dX9_sheet_83 : decode cX9_sheet 83 = .ok (.iload_n 1, 1) := by decide +kernel
theorem dX9_sheet_84 : decode cX9_sheet 84 = .ok (.aaload, 1) := by decide +kernel
theorem dX9_sheet_85 : decode cX9_sheet 85 = .ok (.getfield 252, 3) := by decide +kernel
theorem dX9_sheet_88 : decode cX9_sheet 88 = .ok (.ireturn, 1) := by decide +kernel
theorem dX9_put_0 : decode cX9_put 0 = .ok (.iload_n 1, 1) := by decide +kernel
theorem dX9_put_1 : decode cX9_put 1 = .ok (.invokestatic 245, 3) := by decide +kernel
theorem dX9_put_4 : decode cX9_put 4 = .ok (.ifCond .ne 10, 3) := by decide +kernel
theorem dX9_put_7 : decode cX9_put 7 = .ok (.aload_n 0, 1) := by decide +kernel
theorem dX9_put_8 : decode cX9_put 8 = .ok (.ldc 47, 2) := by decide +kernel
theorem dX9_put_10 : decode cX9_put 10 = .ok (.invokevirtual 48, 3) := by decide +kernel
theorem dX9_put_13 : decode cX9_put 13 = .ok (.ireturn, 1) := by decide +kernel
theorem dX9_put_14 : decode cX9_put 14 = .ok (.aload_n 0, 1) := by decide +kernel
theorem dX9_put_15 : decode cX9_put 15 = .ok (.getfield 30, 3) := by decide +kernel
theorem dX9_put_18 : decode cX9_put 18 = .ok (.iload_n 1, 1) := by decide +kernel
theorem dX9_put_19 : decode cX9_put 19 = .ok (.aaload, 1) := by decide +kernel
theorem dX9_put_20 : decode cX9_put 20 = .ok (.invokevirtual 255, 3) := by decide +kernel
theorem dX9_put_23 : decode cX9_put 23 = .ok (.ifCond .eq 10, 3) := by decide +kernel
theorem dX9_put_26 : decode cX9_put 26 = .ok (.aload_n 0, 1) := by decide +kernel
theorem dX9_put_27 : decode cX9_put 27 = .ok (.ldc 231, 2) := by decide +kernel
theorem dX9_put_29 : decode cX9_put 29 = .ok (.invokevirtual 48, 3) := by decide +kernel
theorem dX9_put_32 : decode cX9_put 32 = .ok (.ireturn, 1) := by decide +kernel
theorem dX9_put_33 : decode cX9_put 33 = .ok (.iload_n 2, 1) := by decide +kernel
theorem dX9_put_34 : decode cX9_put 34 = .ok (.ifCond .lt 16, 3) := by decide +kernel
theorem dX9_put_37 : decode cX9_put 37 = .ok (.iload_n 2, 1) := by decide +kernel
theorem dX9_put_38 : decode cX9_put 38 = .ok (.aload_n 0, 1) := by decide +kernel
theorem dX9_put_39 : decode cX9_put 39 = .ok (.getfield 30, 3) := by decide +kernel
theorem dX9_put_42 : decode cX9_put 42 = .ok (.iload_n 1, 1) := by decide +kernel
theorem dX9_put_43 : decode cX9_put 43 = .ok (.aaload, 1) := by decide +kernel
theorem dX9_put_44 : decode cX9_put 44 = .ok (.getfield 252, 3) := by decide +kernel
theorem dX9_put_47 : decode cX9_put 47 = .ok (.if_icmp .lt 10, 3) := by decide +kernel
theorem dX9_put_50 : decode cX9_put 50 = .ok (.aload_n 0, 1) := by decide +kernel
theorem dX9_put_51 : decode cX9_put 51 = .ok (.ldc 47, 2) := by decide +kernel
theorem dX9_put_53 : decode cX9_put 53 = .ok (.invokevirtual 48, 3) := by decide +kernel
theorem dX9_put_56 : decode cX9_put 56 = .ok (.ireturn, 1) := by decide +kernel
theorem dX9_put_57 : decode cX9_put 57 = .ok (.aload_n 0, 1) := by decide +kernel
theorem dX9_put_58 : decode cX9_put 58 = .ok (.getfield 30, 3) := by decide +kernel
theorem dX9_put_61 : decode cX9_put 61 = .ok (.iload_n 1, 1) := by decide +kernel
theorem dX9_put_62 : decode cX9_put 62 = .ok (.aaload, 1) := by decide +kernel
theorem dX9_put_63 : decode cX9_put 63 = .ok (.iload_n 2, 1) := by decide +kernel
end
section
theorem dX9_put_64 : decode cX9_put 64 = .ok (.iload_n 3, 1) := by decide +kernel
theorem dX9_put_65 : decode cX9_put 65 = .ok (.invokevirtual 259, 3) := by decide +kernel
theorem dX9_put_68 : decode cX9_put 68 = .ok (.iconst 0, 1) := by decide +kernel
theorem dX9_put_69 : decode cX9_put 69 = .ok (.ireturn, 1) := by decide +kernel
theorem dX9_copy_0 : decode cX9_copy 0 = .ok (.iload_n 1, 1) := by decide +kernel
theorem dX9_copy_1 : decode cX9_copy 1 = .ok (.invokestatic 245, 3) := by decide +kernel
theorem dX9_copy_4 : decode cX9_copy 4 = .ok (.ifCond .eq 10, 3) := by decide +kernel
theorem dX9_copy_7 : decode cX9_copy 7 = .ok (.iload_n 3, 1) := by decide +kernel
theorem dX9_copy_8 : decode cX9_copy 8 = .ok (.invokestatic 245, 3) := by decide +kernel
theorem dX9_copy_11 : decode cX9_copy 11 = .ok (.ifCond .ne 10, 3) := by decide +kernel
theorem dX9_copy_14 : decode cX9_copy 14 = .ok (.aload_n 0, 1) := by decide +kernel
theorem dX9_copy_15 : decode cX9_copy 15 = .ok (.ldc 47, 2) := by decide +kernel
theorem dX9_copy_17 : decode cX9_copy 17 = .ok (.invokevirtual 48, 3) := by decide +kernel
theorem dX9_copy_20 : decode cX9_copy 20 = .ok (.ireturn, 1) := by decide +kernel
theorem dX9_copy_21 : decode cX9_copy 21 = .ok (.aload_n 0, 1) := by decide +kernel
theorem dX9_copy_22 : decode cX9_copy 22 = .ok (.getfield 30, 3) := by decide +kernel
theorem dX9_copy_25 : decode cX9_copy 25 = .ok (.iload_n 1, 1) := by decide +kernel
theorem dX9_copy_26 : decode cX9_copy 26 = .ok (.aaload, 1) := by decide +kernel
theorem dX9_copy_27 : decode cX9_copy 27 = .ok (.invokevirtual 255, 3) := by decide +kernel
theorem dX9_copy_30 : decode cX9_copy 30 = .ok (.ifCond .ne 15, 3) := by decide +kernel
theorem dX9_copy_33 : decode cX9_copy 33 = .ok (.aload_n 0, 1) := by decide +kernel
theorem dX9_copy_34 : decode cX9_copy 34 = .ok (.getfield 30, 3) := by decide +kernel
theorem dX9_copy_37 : decode cX9_copy 37 = .ok (.iload_n 3, 1) := by decide +kernel
theorem dX9_copy_38 : decode cX9_copy 38 = .ok (.aaload, 1) := by decide +kernel
theorem dX9_copy_39 : decode cX9_copy 39 = .ok (.invokevirtual 255, 3) := by decide +kernel
theorem dX9_copy_42 : decode cX9_copy 42 = .ok (.ifCond .eq 10, 3) := by decide +kernel
theorem dX9_copy_45 : decode cX9_copy 45 = .ok (.aload_n 0, 1) := by decide +kernel
theorem dX9_copy_46 : decode cX9_copy 46 = .ok (.ldc 231, 2) := by decide +kernel
theorem dX9_copy_48 : decode cX9_copy 48 = .ok (.invokevirtual 48, 3) := by decide +kernel
theorem dX9_copy_51 : decode cX9_copy 51 = .ok (.ireturn, 1) := by decide +kernel
theorem dX9_copy_52 : decode cX9_copy 52 = .ok (.aload_n 0, 1) := by decide +kernel
theorem dX9_copy_53 : decode cX9_copy 53 = .ok (.getfield 30, 3) := by decide +kernel
theorem dX9_copy_56 : decode cX9_copy 56 = .ok (.iload_n 1, 1) := by decide +kernel
theorem dX9_copy_57 : decode cX9_copy 57 = .ok (.aaload, 1) := by decide +kernel
theorem dX9_copy_58 : decode cX9_copy 58 = .ok (.getfield 262, 3) := by decide +kernel
theorem dX9_copy_61 : decode cX9_copy 61 = .ok (.aload_n 0, 1) := by decide +kernel
theorem dX9_copy_62 : decode cX9_copy 62 = .ok (.getfield 30, 3) := by decide +kernel
theorem dX9_copy_65 : decode cX9_copy 65 = .ok (.iload_n 3, 1) := by decide +kernel
theorem dX9_copy_66 : decode cX9_copy 66 = .ok (.aaload, 1) := by decide +kernel
theorem dX9_copy_67 : decode cX9_copy 67 = .ok (.getfield 262, 3) := by decide +kernel
theorem dX9_copy_70 : decode cX9_copy 70 = .ok (.if_icmp .eq 10, 3) := by decide +kernel
theorem dX9_copy_73 : decode cX9_copy 73 = .ok (.aload_n 0, 1) := by decide +kernel
theorem dX9_copy_74 : decode cX9_copy 74 = .ok (.ldc 102, 2) := by decide +kernel
theorem dX9_copy_76 : decode cX9_copy 76 = .ok (.invokevirtual 48, 3) := by decide +kernel
theorem dX9_copy_79 : decode cX9_copy 79 = .ok (.ireturn, 1) := by decide +kernel
theorem dX9_copy_80 : decode cX9_copy 80 = .ok (.aload_n 0, 1) := by decide +kernel
theorem dX9_copy_81 : decode cX9_copy 81 = .ok (.getfield 30, 3) := by decide +kernel
theorem dX9_copy_84 : decode cX9_copy 84 = .ok (.iload_n 1, 1) := by decide +kernel
theorem dX9_copy_85 : decode cX9_copy 85 = .ok (.aaload, 1) := by decide +kernel
theorem dX9_copy_86 : decode cX9_copy 86 = .ok (.iload_n 2, 1) := by decide +kernel
theorem dX9_copy_87 : decode cX9_copy 87 = .ok (.iload 5, 2) := by decide +kernel
theorem dX9_copy_89 : decode cX9_copy 89 = .ok (.invokevirtual 265, 3) := by decide +kernel
theorem dX9_copy_92 : decode cX9_copy 92 = .ok (.ifCond .eq 19, 3) := by decide +kernel
theorem dX9_copy_95 : decode cX9_copy 95 = .ok (.aload_n 0, 1) := by decide +kernel
theorem dX9_copy_96 : decode cX9_copy 96 = .ok (.getfield 30, 3) := by decide +kernel
theorem dX9_copy_99 : decode cX9_copy 99 = .ok (.iload_n 3, 1) := by decide +kernel
theorem dX9_copy_100 : decode cX9_copy 100 = .ok (.aaload, 1) := by decide +kernel
theorem dX9_copy_101 : decode cX9_copy 101 = .ok (.iload 4, 2) := by decide +kernel
theorem dX9_copy_103 : decode cX9_copy 103 = .ok (.iload 5, 2) := by decide +kernel
theorem dX9_copy_105 : decode cX9_copy 105 = .ok (.invokevirtual 265, 3) := by decide +kernel
theorem dX9_copy_108 : decode cX9_copy 108 = .ok (.ifCond .ne 10, 3) := by decide +kernel
theorem dX9_copy_111 : decode cX9_copy 111 = .ok (.aload_n 0, 1) := by decide +kernel
theorem dX9_copy_112 : decode cX9_copy 112 = .ok (.ldc 47, 2) := by decide +kernel
theorem dX9_copy_114 : decode cX9_copy 114 = .ok (.invokevirtual 48, 3) := by decide +kernel
theorem dX9_copy_117 : decode cX9_copy 117 = .ok (.ireturn, 1) := by decide +kernel
theorem dX9_copy_118 : decode cX9_copy 118 = .ok (.aload_n 0, 1) := by decide +kernel
theorem dX9_copy_119 : decode cX9_copy 119 = .ok (.getfield 30, 3) := by decide +kernel
theorem dX9_copy_122 : decode cX9_copy 122 = .ok (.iload_n 1, 1) := by decide +kernel
theorem dX9_copy_123 : decode cX9_copy 123 = .ok (.aaload, 1) := by decide +kernel
theorem dX9_copy_124 : decode cX9_copy 124 = .ok (.getfield 268, 3) := by decide +kernel
theorem dX9_copy_127 : decode cX9_copy 127 = .ok (.iload_n 2, 1) := by decide +kernel
theorem dX9_copy_128 : decode cX9_copy 128 = .ok (.aload_n 0, 1) := by decide +kernel
theorem dX9_copy_129 : decode cX9_copy 129 = .ok (.getfield 30, 3) := by decide +kernel
theorem dX9_copy_132 : decode cX9_copy 132 = .ok (.iload_n 3, 1) := by decide +kernel
theorem dX9_copy_133 : decode cX9_copy 133 = .ok (.aaload, 1) := by decide +kernel
theorem dX9_copy_134 : decode cX9_copy 134 = .ok (.getfield 268, 3) := by decide +kernel
theorem dX9_copy_137 : decode cX9_copy 137 = .ok (.iload 4, 2) := by decide +kernel
theorem dX9_copy_139 : decode cX9_copy 139 = .ok (.iload 5, 2) := by decide +kernel
theorem dX9_copy_141 : decode cX9_copy 141 = .ok (.invokestatic 271, 3) := by decide +kernel
theorem dX9_copy_144 : decode cX9_copy 144 = .ok (.iload 5, 2) := by decide +kernel
theorem dX9_copy_146 : decode cX9_copy 146 = .ok (.ireturn, 1) := by decide +kernel
theorem dX9_read_0 : decode cX9_read 0 = .ok (.iload_n 1, 1) := by decide +kernel
theorem dX9_read_1 : decode cX9_read 1 = .ok (.invokestatic 245, 3) := by decide +kernel
theorem dX9_read_4 : decode cX9_read 4 = .ok (.ifCond .ne 10, 3) := by decide +kernel
theorem dX9_read_7 : decode cX9_read 7 = .ok (.aload_n 0, 1) := by decide +kernel
theorem dX9_read_8 : decode cX9_read 8 = .ok (.ldc 47, 2) := by decide +kernel
theorem dX9_read_10 : decode cX9_read 10 = .ok (.invokevirtual 48, 3) := by decide +kernel
theorem dX9_read_13 : decode cX9_read 13 = .ok (.ireturn, 1) := by decide +kernel
theorem dX9_read_14 : decode cX9_read 14 = .ok (.aload_n 0, 1) := by decide +kernel
theorem dX9_read_15 : decode cX9_read 15 = .ok (.getfield 30, 3) := by decide +kernel
theorem dX9_read_18 : decode cX9_read 18 = .ok (.iload_n 1, 1) := by decide +kernel
theorem dX9_read_19 : decode cX9_read 19 = .ok (.aaload, 1) := by decide +kernel
theorem dX9_read_20 : decode cX9_read 20 = .ok (.invokevirtual 255, 3) := by decide +kernel
theorem dX9_read_23 : decode cX9_read 23 = .ok (.ifCond .eq 10, 3) := by decide +kernel
theorem dX9_read_26 : decode cX9_read 26 = .ok (.aload_n 0, 1) := by decide +kernel
theorem dX9_read_27 : decode cX9_read 27 = .ok (.ldc 231, 2) := by decide +kernel
theorem dX9_read_29 : decode cX9_read 29 = .ok (.invokevirtual 48, 3) := by decide +kernel
theorem dX9_read_32 : decode cX9_read 32 = .ok (.ireturn, 1) := by decide +kernel
theorem dX9_read_33 : decode cX9_read 33 = .ok (.aload_n 0, 1) := by decide +kernel
theorem dX9_read_34 : decode cX9_read 34 = .ok (.getfield 10, 3) := by decide +kernel
theorem dX9_read_37 : decode cX9_read 37 = .ok (.getfield 87, 3) := by decide +kernel
theorem dX9_read_40 : decode cX9_read 40 = .ok (.aload_n 0, 1) := by decide +kernel
theorem dX9_read_41 : decode cX9_read 41 = .ok (.getfield 30, 3) := by decide +kernel
theorem dX9_read_44 : decode cX9_read 44 = .ok (.iload_n 1, 1) := by decide +kernel
theorem dX9_read_45 : decode cX9_read 45 = .ok (.aaload, 1) := by decide +kernel
theorem dX9_read_46 : decode cX9_read 46 = .ok (.invokevirtual 277, 3) := by decide +kernel
theorem dX9_read_49 : decode cX9_read 49 = .ok (.ireturn, 1) := by decide +kernel
theorem dX9_keep_0 : decode cX9_keep 0 = .ok (.aload_n 0, 1) := by decide +kernel
theorem dX9_keep_1 : decode cX9_keep 1 = .ok (.getfield 16, 3) := by decide +kernel
theorem dX9_keep_4 : decode cX9_keep 4 = .ok (.aload_n 0, 1) := by decide +kernel
theorem dX9_keep_5 : decode cX9_keep 5 = .ok (.getfield 10, 3) := by decide +kernel
theorem dX9_keep_8 : decode cX9_keep 8 = .ok (.invokevirtual 281, 3) := by decide +kernel
theorem dX9_keep_11 : decode cX9_keep 11 = .ok (.aload_n 0, 1) := by decide +kernel
theorem dX9_keep_12 : decode cX9_keep 12 = .ok (.iconst 1, 1) := by decide +kernel
theorem dX9_keep_13 : decode cX9_keep 13 = .ok (.putfield 35, 3) := by decide +kernel
theorem dX9_keep_16 : decode cX9_keep 16 = .ok (.aload_n 0, 1) := by decide +kernel
theorem dX9_keep_17 : decode cX9_keep 17 = .ok (.getfield 10, 3) := by decide +kernel
theorem dX9_keep_20 : decode cX9_keep 20 = .ok (.getfield 77, 3) := by decide +kernel
theorem dX9_keep_23 : decode cX9_keep 23 = .ok (.getfield 81, 3) := by decide +kernel
theorem dX9_keep_26 : decode cX9_keep 26 = .ok (.ireturn, 1) := by decide +kernel
theorem dX9_back_0 : decode cX9_back 0 = .ok (.aload_n 0, 1) := by decide +kernel
theorem dX9_back_1 : decode cX9_back 1 = .ok (.getfield 35, 3) := by decide +kernel
theorem dX9_back_4 : decode cX9_back 4 = .ok (.ifCond .ne 10, 3) := by decide +kernel
theorem dX9_back_7 : decode cX9_back 7 = .ok (.aload_n 0, 1) := by decide +kernel
theorem dX9_back_8 : decode cX9_back 8 = .ok (.ldc 135, 2) := by decide +kernel
theorem dX9_back_10 : decode cX9_back 10 = .ok (.invokevirtual 48, 3) := by decide +kernel
theorem dX9_back_13 : decode cX9_back 13 = .ok (.ireturn, 1) := by decide +kernel
theorem dX9_back_14 : decode cX9_back 14 = .ok (.aload_n 0, 1) := by decide +kernel
theorem dX9_back_15 : decode cX9_back 15 = .ok (.getfield 10, 3) := by decide +kernel
theorem dX9_back_18 : decode cX9_back 18 = .ok (.aload_n 0, 1) := by decide +kernel
theorem dX9_back_19 : decode cX9_back 19 = .ok (.getfield 16, 3) := by decide +kernel
theorem dX9_back_22 : decode cX9_back 22 = .ok (.invokevirtual 281, 3) := by decide +kernel
theorem dX9_back_25 : decode cX9_back 25 = .ok (.aload_n 0, 1) := by decide +kernel
theorem dX9_back_26 : decode cX9_back 26 = .ok (.getfield 10, 3) := by decide +kernel
theorem dX9_back_29 : decode cX9_back 29 = .ok (.getfield 77, 3) := by decide +kernel
theorem dX9_back_32 : decode cX9_back 32 = .ok (.getfield 81, 3) := by decide +kernel
theorem dX9_back_35 : decode cX9_back 35 = .ok (.ireturn, 1) := by decide +kernel
theorem dX9_told_0 : decode cX9_told 0 = .ok (.iload_n 1, 1) := by decide +kernel
theorem dX9_told_1 : decode cX9_told 1 = .ok (.tableswitch 114 0 6 #[43, 54, 65, 76, 87, 98, 103], 43) := by decide +kernel
theorem dX9_told_44 : decode cX9_told 44 = .ok (.aload_n 0, 1) := by decide +kernel
theorem dX9_told_45 : decode cX9_told 45 = .ok (.getfield 10, 3) := by decide +kernel
theorem dX9_told_48 : decode cX9_told 48 = .ok (.getfield 52, 3) := by decide +kernel
theorem dX9_told_51 : decode cX9_told 51 = .ok (.getfield 56, 3) := by decide +kernel
theorem dX9_told_54 : decode cX9_told 54 = .ok (.ireturn, 1) := by decide +kernel
theorem dX9_told_55 : decode cX9_told 55 = .ok (.aload_n 0, 1) := by decide +kernel
theorem dX9_told_56 : decode cX9_told 56 = .ok (.getfield 10, 3) := by decide +kernel
theorem dX9_told_59 : decode cX9_told 59 = .ok (.getfield 77, 3) := by decide +kernel
theorem dX9_told_62 : decode cX9_told 62 = .ok (.getfield 81, 3) := by decide +kernel
theorem dX9_told_65 : decode cX9_told 65 = .ok (.ireturn, 1) := by decide +kernel
theorem dX9_told_66 : decode cX9_told 66 = .ok (.aload_n 0, 1) := by decide +kernel
theorem dX9_told_67 : decode cX9_told 67 = .ok (.getfield 10, 3) := by decide +kernel
theorem dX9_told_70 : decode cX9_told 70 = .ok (.getfield 114, 3) := by decide +kernel
theorem dX9_told_73 : decode cX9_told 73 = .ok (.getfield 118, 3) := by decide +kernel
theorem dX9_told_76 : decode cX9_told 76 = .ok (.ireturn, 1) := by decide +kernel
theorem dX9_told_77 : decode cX9_told 77 = .ok (.aload_n 0, 1) := by decide +kernel
theorem dX9_told_78 : decode cX9_told 78 = .ok (.getfield 10, 3) := by decide +kernel
theorem dX9_told_81 : decode cX9_told 81 = .ok (.getfield 139, 3) := by decide +kernel
theorem dX9_told_84 : decode cX9_told 84 = .ok (.getfield 143, 3) := by decide +kernel
theorem dX9_told_87 : decode cX9_told 87 = .ok (.ireturn, 1) := by decide +kernel
theorem dX9_told_88 : decode cX9_told 88 = .ok (.aload_n 0, 1) := by decide +kernel
theorem dX9_told_89 : decode cX9_told 89 = .ok (.getfield 10, 3) := by decide +kernel
theorem dX9_told_92 : decode cX9_told 92 = .ok (.getfield 177, 3) := by decide +kernel
theorem dX9_told_95 : decode cX9_told 95 = .ok (.getfield 181, 3) := by decide +kernel
theorem dX9_told_98 : decode cX9_told 98 = .ok (.ireturn, 1) := by decide +kernel
theorem dX9_told_99 : decode cX9_told 99 = .ok (.aload_n 0, 1) := by decide +kernel
theorem dX9_told_100 : decode cX9_told 100 = .ok (.getfield 39, 3) := by decide +kernel
theorem dX9_told_103 : decode cX9_told 103 = .ok (.ireturn, 1) := by decide +kernel
theorem dX9_told_104 : decode cX9_told 104 = .ok (.aload_n 0, 1) := by decide +kernel
theorem dX9_told_105 : decode cX9_told 105 = .ok (.getfield 10, 3) := by decide +kernel
theorem dX9_told_108 : decode cX9_told 108 = .ok (.getfield 114, 3) := by decide +kernel
theorem dX9_told_111 : decode cX9_told 111 = .ok (.invokevirtual 128, 3) := by decide +kernel
theorem dX9_told_114 : decode cX9_told 114 = .ok (.ireturn, 1) := by decide +kernel
theorem dX9_told_115 : decode cX9_told 115 = .ok (.aload_n 0, 1) := by decide +kernel
theorem dX9_told_116 : decode cX9_told 116 = .ok (.ldc 47, 2) := by decide +kernel
theorem dX9_told_118 : decode cX9_told 118 = .ok (.invokevirtual 48, 3) := by decide +kernel
theorem dX9_told_121 : decode cX9_told 121 = .ok (.ireturn, 1) := by decide +kernel
theorem dX9_finding_0 : decode cX9_finding 0 = .ok (.aload_n 0, 1) := by decide +kernel
theorem dX9_finding_1 : decode cX9_finding 1 = .ok (.dup, 1) := by decide +kernel
theorem dX9_finding_2 : decode cX9_finding 2 = .ok (.getfield 39, 3) := by decide +kernel
theorem dX9_finding_5 : decode cX9_finding 5 = .ok (.iconst 1, 1) := by decide +kernel
theorem dX9_finding_6 : decode cX9_finding 6 = .ok (.iadd, 1) := by decide +kernel
theorem dX9_finding_7 : decode cX9_finding 7 = .ok (.putfield 39, 3) := by decide +kernel
theorem dX9_finding_10 : decode cX9_finding 10 = .ok (.iload_n 1, 1) := by decide +kernel
theorem dX9_finding_11 : decode cX9_finding 11 = .ok (.ireturn, 1) := by decide +kernel
theorem dX9_parishOrNone_0 : decode cX9_parishOrNone 0 = .ok (.iload_n 1, 1) := by decide +kernel
theorem dX9_parishOrNone_1 : decode cX9_parishOrNone 1 = .ok (.iconst (-1), 1) := by decide +kernel
theorem dX9_parishOrNone_2 : decode cX9_parishOrNone 2 = .ok (.if_icmp .ne 12, 3) := by decide +kernel
theorem dX9_parishOrNone_5 : decode cX9_parishOrNone 5 = .ok (.aload_n 0, 1) := by decide +kernel
theorem dX9_parishOrNone_6 : decode cX9_parishOrNone 6 = .ok (.ldc 135, 2) := by decide +kernel
theorem dX9_parishOrNone_8 : decode cX9_parishOrNone 8 = .ok (.invokevirtual 48, 3) := by decide +kernel
theorem dX9_parishOrNone_11 : decode cX9_parishOrNone 11 = .ok (.goto 4, 3) := by decide +kernel
theorem dX9_parishOrNone_14 : decode cX9_parishOrNone 14 = .ok (.iload_n 1, 1) := by decide +kernel
theorem dX9_parishOrNone_15 : decode cX9_parishOrNone 15 = .ok (.ireturn, 1) := by decide +kernel
theorem dX9_canReckon_0 : decode cX9_canReckon 0 = .ok (.aload_n 0, 1) := by decide +kernel
theorem dX9_canReckon_1 : decode cX9_canReckon 1 = .ok (.getfield 10, 3) := by decide +kernel
theorem dX9_canReckon_4 : decode cX9_canReckon 4 = .ok (.getfield 77, 3) := by decide +kernel
theorem dX9_canReckon_7 : decode cX9_canReckon 7 = .ok (.iload_n 1, 1) := by decide +kernel
theorem dX9_canReckon_8 : decode cX9_canReckon 8 = .ok (.invokevirtual 97, 3) := by decide +kernel
theorem dX9_canReckon_11 : decode cX9_canReckon 11 = .ok (.ifCond .eq 21, 3) := by decide +kernel
theorem dX9_canReckon_14 : decode cX9_canReckon 14 = .ok (.iload_n 2, 1) := by decide +kernel
theorem dX9_canReckon_15 : decode cX9_canReckon 15 = .ok (.invokestatic 74, 3) := by decide +kernel
theorem dX9_canReckon_18 : decode cX9_canReckon 18 = .ok (.ifCond .eq 14, 3) := by decide +kernel
theorem dX9_canReckon_21 : decode cX9_canReckon 21 = .ok (.iload_n 3, 1) := by decide +kernel
theorem dX9_canReckon_22 : decode cX9_canReckon 22 = .ok (.invokestatic 74, 3) := by decide +kernel
theorem dX9_canReckon_25 : decode cX9_canReckon 25 = .ok (.ifCond .eq 7, 3) := by decide +kernel
theorem dX9_canReckon_28 : decode cX9_canReckon 28 = .ok (.iconst 1, 1) := by decide +kernel
theorem dX9_canReckon_29 : decode cX9_canReckon 29 = .ok (.goto 4, 3) := by decide +kernel
theorem dX9_canReckon_32 : decode cX9_canReckon 32 = .ok (.iconst 0, 1) := by decide +kernel
theorem dX9_canReckon_33 : decode cX9_canReckon 33 = .ok (.ireturn, 1) := by decide +kernel
theorem dX9_within_0 : decode cX9_within 0 = .ok (.iload_n 0, 1) := by decide +kernel
theorem dX9_within_1 : decode cX9_within 1 = .ok (.iload_n 1, 1) := by decide +kernel
theorem dX9_within_2 : decode cX9_within 2 = .ok (.if_icmp .lt 12, 3) := by decide +kernel
theorem dX9_within_5 : decode cX9_within 5 = .ok (.iload_n 0, 1) := by decide +kernel
theorem dX9_within_6 : decode cX9_within 6 = .ok (.iload_n 2, 1) := by decide +kernel
theorem dX9_within_7 : decode cX9_within 7 = .ok (.if_icmp .gt 7, 3) := by decide +kernel
theorem dX9_within_10 : decode cX9_within 10 = .ok (.iconst 1, 1) := by decide +kernel
theorem dX9_within_11 : decode cX9_within 11 = .ok (.goto 4, 3) := by decide +kernel
theorem dX9_within_14 : decode cX9_within 14 = .ok (.iconst 0, 1) := by decide +kernel
theorem dX9_within_15 : decode cX9_within 15 = .ok (.ireturn, 1) := by decide +kernel
theorem dX9_isDay_0 : decode cX9_isDay 0 = .ok (.iload_n 0, 1) := by decide +kernel
theorem dX9_isDay_1 : decode cX9_isDay 1 = .ok (.iconst 0, 1) := by decide +kernel
theorem dX9_isDay_2 : decode cX9_isDay 2 = .ok (.sipush 9999, 3) := by decide +kernel
theorem dX9_isDay_5 : decode cX9_isDay 5 = .ok (.invokestatic 43, 3) := by decide +kernel
theorem dX9_isDay_8 : decode cX9_isDay 8 = .ok (.ireturn, 1) := by decide +kernel
theorem dX9_isWeek_0 : decode cX9_isWeek 0 = .ok (.iload_n 0, 1) := by decide +kernel
theorem dX9_isWeek_1 : decode cX9_isWeek 1 = .ok (.iconst 0, 1) := by decide +kernel
theorem dX9_isWeek_2 : decode cX9_isWeek 2 = .ok (.bipush 59, 2) := by decide +kernel
theorem dX9_isWeek_4 : decode cX9_isWeek 4 = .ok (.invokestatic 43, 3) := by decide +kernel
theorem dX9_isWeek_7 : decode cX9_isWeek 7 = .ok (.ireturn, 1) := by decide +kernel
theorem dX9_isSheet_0 : decode cX9_isSheet 0 = .ok (.iload_n 0, 1) := by decide +kernel
theorem dX9_isSheet_1 : decode cX9_isSheet 1 = .ok (.iconst 0, 1) := by decide +kernel
theorem dX9_isSheet_2 : decode cX9_isSheet 2 = .ok (.iconst 3, 1) := by decide +kernel
theorem dX9_isSheet_3 : decode cX9_isSheet 3 = .ok (.invokestatic 43, 3) := by decide +kernel
theorem dX9_isSheet_6 : decode cX9_isSheet 6 = .ok (.ireturn, 1) := by decide +kernel
theorem dX9_hasNumber_0 : decode cX9_hasNumber 0 = .ok (.iload_n 0, 1) := by decide +kernel
theorem dX9_hasNumber_1 : decode cX9_hasNumber 1 = .ok (.ifCond .eq 12, 3) := by decide +kernel
theorem dX9_hasNumber_4 : decode cX9_hasNumber 4 = .ok (.iload_n 0, 1) := by decide +kernel
theorem dX9_hasNumber_5 : decode cX9_hasNumber 5 = .ok (.iconst 3, 1) := by decide +kernel
theorem dX9_hasNumber_6 : decode cX9_hasNumber 6 = .ok (.if_icmp .eq 7, 3) := by decide +kernel
theorem dX9_hasNumber_9 : decode cX9_hasNumber 9 = .ok (.iconst 1, 1) := by decide +kernel
theorem dX9_hasNumber_10 : decode cX9_hasNumber 10 = .ok (.goto 4, 3) := by decide +kernel
theorem dX9_hasNumber_13 : decode cX9_hasNumber 13 = .ok (.iconst 0, 1) := by decide +kernel
theorem dX9_hasNumber_14 : decode cX9_hasNumber 14 = .ok (.ireturn, 1) := by decide +kernel
theorem dX9_copyRow_0 : decode cX9_copyRow 0 = .ok (.aload_n 0, 1) := by decide +kernel
theorem dX9_copyRow_1 : decode cX9_copyRow 1 = .ok (.iconst 0, 1) := by decide +kernel
theorem dX9_copyRow_2 : decode cX9_copyRow 2 = .ok (.aload_n 1, 1) := by decide +kernel
theorem dX9_copyRow_3 : decode cX9_copyRow 3 = .ok (.iconst 0, 1) := by decide +kernel
theorem dX9_copyRow_4 : decode cX9_copyRow 4 = .ok (.aload_n 0, 1) := by decide +kernel
theorem dX9_copyRow_5 : decode cX9_copyRow 5 = .ok (.arraylength, 1) := by decide +kernel
theorem dX9_copyRow_6 : decode cX9_copyRow 6 = .ok (.aload_n 1, 1) := by decide +kernel
theorem dX9_copyRow_7 : decode cX9_copyRow 7 = .ok (.arraylength, 1) := by decide +kernel
theorem dX9_copyRow_8 : decode cX9_copyRow 8 = .ok (.invokestatic 284, 3) := by decide +kernel
theorem dX9_copyRow_11 : decode cX9_copyRow 11 = .ok (.invokestatic 271, 3) := by decide +kernel
theorem dX9_copyRow_14 : decode cX9_copyRow 14 = .ok (.return_, 1) := by decide +kernel
theorem dX10_init_0 : decode cX10_init 0 = .ok (.aload_n 0, 1) := by decide +kernel
theorem dX10_init_1 : decode cX10_init 1 = .ok (.invokespecial 1, 3) := by decide +kernel
theorem dX10_init_4 : decode cX10_init 4 = .ok (.aload_n 0, 1) := by decide +kernel
theorem dX10_init_5 : decode cX10_init 5 = .ok (.sipush 549, 3) := by decide +kernel
theorem dX10_init_8 : decode cX10_init 8 = .ok (.newarray .int, 2) := by decide +kernel
theorem dX10_init_10 : decode cX10_init 10 = .ok (.putfield 9, 3) := by decide +kernel
theorem dX10_init_13 : decode cX10_init 13 = .ok (.aload_n 0, 1) := by decide +kernel
theorem dX10_init_14 : decode cX10_init 14 = .ok (.sipush 549, 3) := by decide +kernel
theorem dX10_init_17 : decode cX10_init 17 = .ok (.newarray .int, 2) := by decide +kernel
theorem dX10_init_19 : decode cX10_init 19 = .ok (.putfield 13, 3) := by decide +kernel
theorem dX10_init_22 : decode cX10_init 22 = .ok (.aload_n 0, 1) := by decide +kernel
theorem dX10_init_23 : decode cX10_init 23 = .ok (.iconst 4, 1) := by decide +kernel
theorem dX10_init_24 : decode cX10_init 24 = .ok (.newarray .int, 2) := by decide +kernel
theorem dX10_init_26 : decode cX10_init 26 = .ok (.putfield 16, 3) := by decide +kernel
theorem dX10_init_29 : decode cX10_init 29 = .ok (.aload_n 0, 1) := by decide +kernel
theorem dX10_init_30 : decode cX10_init 30 = .ok (.iconst 4, 1) := by decide +kernel
theorem dX10_init_31 : decode cX10_init 31 = .ok (.newarray .int, 2) := by decide +kernel
theorem dX10_init_33 : decode cX10_init 33 = .ok (.putfield 19, 3) := by decide +kernel
theorem dX10_init_36 : decode cX10_init 36 = .ok (.aload_n 0, 1) := by decide +kernel
theorem dX10_init_37 : decode cX10_init 37 = .ok (.sipush 240, 3) := by decide +kernel
theorem dX10_init_40 : decode cX10_init 40 = .ok (.newarray .int, 2) := by decide +kernel
theorem dX10_init_42 : decode cX10_init 42 = .ok (.putfield 22, 3) := by decide +kernel
theorem dX10_init_45 : decode cX10_init 45 = .ok (.aload_n 0, 1) := by decide +kernel
theorem dX10_init_46 : decode cX10_init 46 = .ok (.bipush 10, 2) := by decide +kernel
theorem dX10_init_48 : decode cX10_init 48 = .ok (.newarray .int, 2) := by decide +kernel
theorem dX10_init_50 : decode cX10_init 50 = .ok (.putfield 25, 3) := by decide +kernel
theorem dX10_init_53 : decode cX10_init 53 = .ok (.aload_n 0, 1) := by decide +kernel
theorem dX10_init_54 : decode cX10_init 54 = .ok (.bipush 8, 2) := by decide +kernel
theorem dX10_init_56 : decode cX10_init 56 = .ok (.newarray .int, 2) := by decide +kernel
theorem dX10_init_58 : decode cX10_init 58 = .ok (.putfield 28, 3) := by decide +kernel
theorem dX10_init_61 : decode cX10_init 61 = .ok (.aload_n 0, 1) := by decide +kernel
theorem dX10_init_62 : decode cX10_init 62 = .ok (.sipush 256, 3) := by decide +kernel
theorem dX10_init_65 : decode cX10_init 65 = .ok (.newarray .int, 2) := by decide +kernel
theorem dX10_init_67 : decode cX10_init 67 = .ok (.putfield 31, 3) := by decide +kernel
theorem dX10_init_70 : decode cX10_init 70 = .ok (.aload_n 0, 1) := by decide +kernel
theorem dX10_init_71 : decode cX10_init 71 = .ok (.bipush 60, 2) := by decide +kernel
theorem dX10_init_73 : decode cX10_init 73 = .ok (.newarray .int, 2) := by decide +kernel
theorem dX10_init_75 : decode cX10_init 75 = .ok (.putfield 34, 3) := by decide +kernel
theorem dX10_init_78 : decode cX10_init 78 = .ok (.aload_n 0, 1) := by decide +kernel
theorem dX10_init_79 : decode cX10_init 79 = .ok (.getfield 9, 3) := by decide +kernel
theorem dX10_init_82 : decode cX10_init 82 = .ok (.iconst 5, 1) := by decide +kernel
theorem dX10_init_83 : decode cX10_init 83 = .ok (.bipush 60, 2) := by decide +kernel
theorem dX10_init_85 : decode cX10_init 85 = .ok (.iastore, 1) := by decide +kernel
theorem dX10_init_86 : decode cX10_init 86 = .ok (.aload_n 0, 1) := by decide +kernel
theorem dX10_init_87 : decode cX10_init 87 = .ok (.getfield 9, 3) := by decide +kernel
theorem dX10_init_90 : decode cX10_init 90 = .ok (.bipush 6, 2) := by decide +kernel
theorem dX10_init_92 : decode cX10_init 92 = .ok (.iconst 3, 1) := by decide +kernel
theorem dX10_init_93 : decode cX10_init 93 = .ok (.iastore, 1) := by decide +kernel
theorem dX10_init_94 : decode cX10_init 94 = .ok (.return_, 1) := by decide +kernel
theorem dX10_finding_0 : decode cX10_finding 0 = .ok (.aload_n 0, 1) := by decide +kernel
theorem dX10_finding_1 : decode cX10_finding 1 = .ok (.dup, 1) := by decide +kernel
theorem dX10_finding_2 : decode cX10_finding 2 = .ok (.getfield 37, 3) := by decide +kernel
theorem dX10_finding_5 : decode cX10_finding 5 = .ok (.iconst 1, 1) := by decide +kernel
theorem dX10_finding_6 : decode cX10_finding 6 = .ok (.iadd, 1) := by decide +kernel
theorem dX10_finding_7 : decode cX10_finding 7 = .ok (.putfield 37, 3) := by decide +kernel
theorem dX10_finding_10 : decode cX10_finding 10 = .ok (.iload_n 1, 1) := by decide +kernel
theorem dX10_finding_11 : decode cX10_finding 11 = .ok (.ireturn, 1) := by decide +kernel
theorem dX10_within_0 : decode cX10_within 0 = .ok (.iload_n 0, 1) := by decide +kernel
theorem dX10_within_1 : decode cX10_within 1 = .ok (.iload_n 1, 1) := by decide +kernel
theorem dX10_within_2 : decode cX10_within 2 = .ok (.if_icmp .lt 12, 3) := by decide +kernel
theorem dX10_within_5 : decode cX10_within 5 = .ok (.iload_n 0, 1) := by decide +kernel
theorem dX10_within_6 : decode cX10_within 6 = .ok (.iload_n 2, 1) := by decide +kernel
theorem dX10_within_7 : decode cX10_within 7 = .ok (.if_icmp .gt 7, 3) := by decide +kernel
theorem dX10_within_10 : decode cX10_within 10 = .ok (.iconst 1, 1) := by decide +kernel
theorem dX10_within_11 : decode cX10_within 11 = .ok (.goto 4, 3) := by decide +kernel
theorem dX10_within_14 : decode cX10_within 14 = .ok (.iconst 0, 1) := by decide +kernel
theorem dX10_within_15 : decode cX10_within 15 = .ok (.ireturn, 1) := by decide +kernel
theorem dX10_isDay_0 : decode cX10_isDay 0 = .ok (.iload_n 0, 1) := by decide +kernel
theorem dX10_isDay_1 : decode cX10_isDay 1 = .ok (.iconst 0, 1) := by decide +kernel
theorem dX10_isDay_2 : decode cX10_isDay 2 = .ok (.sipush 9999, 3) := by decide +kernel
theorem dX10_isDay_5 : decode cX10_isDay 5 = .ok (.invokestatic 41, 3) := by decide +kernel
theorem dX10_isDay_8 : decode cX10_isDay 8 = .ok (.ireturn, 1) := by decide +kernel
theorem dX10_isWeek_0 : decode cX10_isWeek 0 = .ok (.iload_n 0, 1) := by decide +kernel
theorem dX10_isWeek_1 : decode cX10_isWeek 1 = .ok (.iconst 0, 1) := by decide +kernel
theorem dX10_isWeek_2 : decode cX10_isWeek 2 = .ok (.bipush 59, 2) := by decide +kernel
theorem dX10_isWeek_4 : decode cX10_isWeek 4 = .ok (.invokestatic 41, 3) := by decide +kernel
theorem dX10_isWeek_7 : decode cX10_isWeek 7 = .ok (.ireturn, 1) := by decide +kernel
theorem dX10_isParish_0 : decode cX10_isParish 0 = .ok (.iload_n 1, 1) := by decide +kernel
theorem dX10_isParish_1 : decode cX10_isParish 1 = .ok (.iconst 0, 1) := by decide +kernel
theorem dX10_isParish_2 : decode cX10_isParish 2 = .ok (.aload_n 0, 1) := by decide +kernel
theorem dX10_isParish_3 : decode cX10_isParish 3 = .ok (.getfield 9, 3) := by decide +kernel
theorem dX10_isParish_6 : decode cX10_isParish 6 = .ok (.iconst 0, 1) := by decide +kernel
theorem dX10_isParish_7 : decode cX10_isParish 7 = .ok (.iaload, 1) := by decide +kernel
theorem dX10_isParish_8 : decode cX10_isParish 8 = .ok (.iconst 1, 1) := by decide +kernel
theorem dX10_isParish_9 : decode cX10_isParish 9 = .ok (.isub, 1) := by decide +kernel
theorem dX10_isParish_10 : decode cX10_isParish 10 = .ok (.invokestatic 41, 3) := by decide +kernel
theorem dX10_isParish_13 : decode cX10_isParish 13 = .ok (.ireturn, 1) := by decide +kernel
theorem dX10_isPerson_0 : decode cX10_isPerson 0 = .ok (.iload_n 1, 1) := by decide +kernel
theorem dX10_isPerson_1 : decode cX10_isPerson 1 = .ok (.iconst 0, 1) := by decide +kernel
theorem dX10_isPerson_2 : decode cX10_isPerson 2 = .ok (.aload_n 0, 1) := by decide +kernel
theorem dX10_isPerson_3 : decode cX10_isPerson 3 = .ok (.getfield 9, 3) := by decide +kernel
theorem dX10_isPerson_6 : decode cX10_isPerson 6 = .ok (.iconst 1, 1) := by decide +kernel
theorem dX10_isPerson_7 : decode cX10_isPerson 7 = .ok (.iaload, 1) := by decide +kernel
theorem dX10_isPerson_8 : decode cX10_isPerson 8 = .ok (.iconst 1, 1) := by decide +kernel
theorem dX10_isPerson_9 : decode cX10_isPerson 9 = .ok (.isub, 1) := by decide +kernel
theorem dX10_isPerson_10 : decode cX10_isPerson 10 = .ok (.invokestatic 41, 3) := by decide +kernel
theorem dX10_isPerson_13 : decode cX10_isPerson 13 = .ok (.ireturn, 1) := by decide +kernel
theorem dX10_parish_0 : decode cX10_parish 0 = .ok (.iload_n 1, 1) := by decide +kernel
theorem dX10_parish_1 : decode cX10_parish 1 = .ok (.iconst 0, 1) := by decide +kernel
theorem dX10_parish_2 : decode cX10_parish 2 = .ok (.sipush 10000, 3) := by decide +kernel
theorem dX10_parish_5 : decode cX10_parish 5 = .ok (.invokestatic 41, 3) := by decide +kernel
theorem dX10_parish_8 : decode cX10_parish 8 = .ok (.ifCond .ne 10, 3) := by decide +kernel
theorem dX10_parish_11 : decode cX10_parish 11 = .ok (.aload_n 0, 1) := by decide +kernel
theorem dX10_parish_12 : decode cX10_parish 12 = .ok (.ldc 45, 2) := by decide +kernel
theorem dX10_parish_14 : decode cX10_parish 14 = .ok (.invokevirtual 46, 3) := by decide +kernel
theorem dX10_parish_17 : decode cX10_parish 17 = .ok (.ireturn, 1) := by decide +kernel
theorem dX10_parish_18 : decode cX10_parish 18 = .ok (.aload_n 0, 1) := by decide +kernel
theorem dX10_parish_19 : decode cX10_parish 19 = .ok (.getfield 9, 3) := by decide +kernel
theorem dX10_parish_22 : decode cX10_parish 22 = .ok (.iconst 0, 1) := by decide +kernel
theorem dX10_parish_23 : decode cX10_parish 23 = .ok (.iaload, 1) := by decide +kernel
theorem dX10_parish_24 : decode cX10_parish 24 = .ok (.istore_n 2, 1) := by decide +kernel
theorem dX10_parish_25 : decode cX10_parish 25 = .ok (.iload_n 2, 1) := by decide +kernel
theorem dX10_parish_26 : decode cX10_parish 26 = .ok (.bipush 6, 2) := by decide +kernel
theorem dX10_parish_28 : decode cX10_parish 28 = .ok (.if_icmp .ne 10, 3) := by decide +kernel
theorem dX10_parish_31 : decode cX10_parish 31 = .ok (.aload_n 0, 1) := by decide +kernel
theorem dX10_parish_32 : decode cX10_parish 32 = .ok (.ldc 50, 2) := by decide +kernel
theorem dX10_parish_34 : decode cX10_parish 34 = .ok (.invokevirtual 46, 3) := by decide +kernel
theorem dX10_parish_37 : decode cX10_parish 37 = .ok (.ireturn, 1) := by decide +kernel
theorem dX10_parish_38 : decode cX10_parish 38 = .ok (.aload_n 0, 1) := by decide +kernel
theorem dX10_parish_39 : decode cX10_parish 39 = .ok (.getfield 9, 3) := by decide +kernel
theorem dX10_parish_42 : decode cX10_parish 42 = .ok (.bipush 7, 2) := by decide +kernel
theorem dX10_parish_44 : decode cX10_parish 44 = .ok (.iload_n 2, 1) := by decide +kernel
theorem dX10_parish_45 : decode cX10_parish 45 = .ok (.iadd, 1) := by decide +kernel
theorem dX10_parish_46 : decode cX10_parish 46 = .ok (.iload_n 1, 1) := by decide +kernel
theorem dX10_parish_47 : decode cX10_parish 47 = .ok (.iastore, 1) := by decide +kernel
theorem dX10_parish_48 : decode cX10_parish 48 = .ok (.aload_n 0, 1) := by decide +kernel
theorem dX10_parish_49 : decode cX10_parish 49 = .ok (.getfield 9, 3) := by decide +kernel
theorem dX10_parish_52 : decode cX10_parish 52 = .ok (.iconst 0, 1) := by decide +kernel
theorem dX10_parish_53 : decode cX10_parish 53 = .ok (.dup2, 1) := by decide +kernel
theorem dX10_parish_54 : decode cX10_parish 54 = .ok (.iaload, 1) := by decide +kernel
theorem dX10_parish_55 : decode cX10_parish 55 = .ok (.iconst 1, 1) := by decide +kernel
theorem dX10_parish_56 : decode cX10_parish 56 = .ok (.iadd, 1) := by decide +kernel
theorem dX10_parish_57 : decode cX10_parish 57 = .ok (.iastore, 1) := by decide +kernel
theorem dX10_parish_58 : decode cX10_parish 58 = .ok (.iload_n 2, 1) := by decide +kernel
theorem dX10_parish_59 : decode cX10_parish 59 = .ok (.ireturn, 1) := by decide +kernel
theorem dX10_miles_0 : decode cX10_miles 0 = .ok (.aload_n 0, 1) := by decide +kernel
theorem dX10_miles_1 : decode cX10_miles 1 = .ok (.iload_n 1, 1) := by decide +kernel
theorem dX10_miles_2 : decode cX10_miles 2 = .ok (.invokevirtual 51, 3) := by decide +kernel
theorem dX10_miles_5 : decode cX10_miles 5 = .ok (.ifCond .eq 21, 3) := by decide +kernel
theorem dX10_miles_8 : decode cX10_miles 8 = .ok (.aload_n 0, 1) := by decide +kernel
theorem dX10_miles_9 : decode cX10_miles 9 = .ok (.iload_n 2, 1) := by decide +kernel
theorem dX10_miles_10 : decode cX10_miles 10 = .ok (.invokevirtual 51, 3) := by decide +kernel
theorem dX10_miles_13 : decode cX10_miles 13 = .ok (.ifCond .eq 13, 3) := by decide +kernel
theorem dX10_miles_16 : decode cX10_miles 16 = .ok (.iload_n 3, 1) := by decide +kernel
theorem dX10_miles_17 : decode cX10_miles 17 = .ok (.iconst 0, 1) := by decide +kernel
theorem dX10_miles_18 : decode cX10_miles 18 = .ok (.bipush 99, 2) := by decide +kernel
theorem dX10_miles_20 : decode cX10_miles 20 = .ok (.invokestatic 41, 3) := by decide +kernel
theorem dX10_miles_23 : decode cX10_miles 23 = .ok (.ifCond .ne 10, 3) := by decide +kernel
theorem dX10_miles_26 : decode cX10_miles 26 = .ok (.aload_n 0, 1) := by decide +kernel
theorem dX10_miles_27 : decode cX10_miles 27 = .ok (.ldc 45, 2) := by decide +kernel
theorem dX10_miles_29 : decode cX10_miles 29 = .ok (.invokevirtual 46, 3) := by decide +kernel
theorem dX10_miles_32 : decode cX10_miles 32 = .ok (.ireturn, 1) := by decide +kernel
theorem dX10_miles_33 : decode cX10_miles 33 = .ok (.iload_n 1, 1) := by decide +kernel
theorem dX10_miles_34 : decode cX10_miles 34 = .ok (.iload_n 2, 1) := by decide +kernel
theorem dX10_miles_35 : decode cX10_miles 35 = .ok (.if_icmp .ne 10, 3) := by decide +kernel
theorem dX10_miles_38 : decode cX10_miles 38 = .ok (.aload_n 0, 1) := by decide +kernel
theorem dX10_miles_39 : decode cX10_miles 39 = .ok (.ldc 55, 2) := by decide +kernel
theorem dX10_miles_41 : decode cX10_miles 41 = .ok (.invokevirtual 46, 3) := by decide +kernel
theorem dX10_miles_44 : decode cX10_miles 44 = .ok (.ireturn, 1) := by decide +kernel
theorem dX10_miles_45 : decode cX10_miles 45 = .ok (.aload_n 0, 1) := by decide +kernel
theorem dX10_miles_46 : decode cX10_miles 46 = .ok (.getfield 9, 3) := by decide +kernel
theorem dX10_miles_49 : decode cX10_miles 49 = .ok (.bipush 13, 2) := by decide +kernel
theorem dX10_miles_51 : decode cX10_miles 51 = .ok (.bipush 6, 2) := by decide +kernel
theorem dX10_miles_53 : decode cX10_miles 53 = .ok (.iload_n 1, 1) := by decide +kernel
theorem dX10_miles_54 : decode cX10_miles 54 = .ok (.imul, 1) := by decide +kernel
theorem dX10_miles_55 : decode cX10_miles 55 = .ok (.iadd, 1) := by decide +kernel
theorem dX10_miles_56 : decode cX10_miles 56 = .ok (.iload_n 2, 1) := by decide +kernel
theorem dX10_miles_57 : decode cX10_miles 57 = .ok (.iadd, 1) := by decide +kernel
theorem dX10_miles_58 : decode cX10_miles 58 = .ok (.iaload, 1) := by decide +kernel
theorem dX10_miles_59 : decode cX10_miles 59 = .ok (.istore 4, 2) := by decide +kernel
theorem dX10_miles_61 : decode cX10_miles 61 = .ok (.aload_n 0, 1) := by decide +kernel
theorem dX10_miles_62 : decode cX10_miles 62 = .ok (.getfield 9, 3) := by decide +kernel
theorem dX10_miles_65 : decode cX10_miles 65 = .ok (.bipush 13, 2) := by decide +kernel
theorem dX10_miles_67 : decode cX10_miles 67 = .ok (.bipush 6, 2) := by decide +kernel
theorem dX10_miles_69 : decode cX10_miles 69 = .ok (.iload_n 1, 1) := by decide +kernel
theorem dX10_miles_70 : decode cX10_miles 70 = .ok (.imul, 1) := by decide +kernel
theorem dX10_miles_71 : decode cX10_miles 71 = .ok (.iadd, 1) := by decide +kernel
theorem dX10_miles_72 : decode cX10_miles 72 = .ok (.iload_n 2, 1) := by decide +kernel
theorem dX10_miles_73 : decode cX10_miles 73 = .ok (.iadd, 1) := by decide +kernel
theorem dX10_miles_74 : decode cX10_miles 74 = .ok (.iload_n 3, 1) := by decide +kernel
theorem dX10_miles_75 : decode cX10_miles 75 = .ok (.iastore, 1) := by decide +kernel
theorem dX10_miles_76 : decode cX10_miles 76 = .ok (.aload_n 0, 1) := by decide +kernel
theorem dX10_miles_77 : decode cX10_miles 77 = .ok (.getfield 9, 3) := by decide +kernel
theorem dX10_miles_80 : decode cX10_miles 80 = .ok (.bipush 13, 2) := by decide +kernel
theorem dX10_miles_82 : decode cX10_miles 82 = .ok (.bipush 6, 2) := by decide +kernel
theorem dX10_miles_84 : decode cX10_miles 84 = .ok (.iload_n 2, 1) := by decide +kernel
theorem dX10_miles_85 : decode cX10_miles 85 = .ok (.imul, 1) := by decide +kernel
theorem dX10_miles_86 : decode cX10_miles 86 = .ok (.iadd, 1) := by decide +kernel
theorem dX10_miles_87 : decode cX10_miles 87 = .ok (.iload_n 1, 1) := by decide +kernel
theorem dX10_miles_88 : decode cX10_miles 88 = .ok (.iadd, 1) := by decide +kernel
theorem dX10_miles_89 : decode cX10_miles 89 = .ok (.iload_n 3, 1) := by decide +kernel
theorem dX10_miles_90 : decode cX10_miles 90 = .ok (.iastore, 1) := by decide +kernel
theorem dX10_miles_91 : decode cX10_miles 91 = .ok (.iload 4, 2) := by decide +kernel
theorem dX10_miles_93 : decode cX10_miles 93 = .ok (.ireturn, 1) := by decide +kernel
theorem dX10_person_0 : decode cX10_person 0 = .ok (.iload_n 1, 1) := by decide +kernel
theorem dX10_person_1 : decode cX10_person 1 = .ok (.iconst 0, 1) := by decide +kernel
theorem dX10_person_2 : decode cX10_person 2 = .ok (.iconst 3, 1) := by decide +kernel
theorem dX10_person_3 : decode cX10_person 3 = .ok (.invokestatic 41, 3) := by decide +kernel
theorem dX10_person_6 : decode cX10_person 6 = .ok (.ifCond .eq 18, 3) := by decide +kernel
theorem dX10_person_9 : decode cX10_person 9 = .ok (.aload_n 0, 1) := by decide +kernel
theorem dX10_person_10 : decode cX10_person 10 = .ok (.iload_n 2, 1) := by decide +kernel
theorem dX10_person_11 : decode cX10_person 11 = .ok (.invokevirtual 51, 3) := by decide +kernel
theorem dX10_person_14 : decode cX10_person 14 = .ok (.ifCond .eq 10, 3) := by decide +kernel
theorem dX10_person_17 : decode cX10_person 17 = .ok (.iload_n 3, 1) := by decide +kernel
theorem dX10_person_18 : decode cX10_person 18 = .ok (.invokestatic 56, 3) := by decide +kernel
theorem dX10_person_21 : decode cX10_person 21 = .ok (.ifCond .ne 10, 3) := by decide +kernel
theorem dX10_person_24 : decode cX10_person 24 = .ok (.aload_n 0, 1) := by decide +kernel
theorem dX10_person_25 : decode cX10_person 25 = .ok (.ldc 45, 2) := by decide +kernel
theorem dX10_person_27 : decode cX10_person 27 = .ok (.invokevirtual 46, 3) := by decide +kernel
theorem dX10_person_30 : decode cX10_person 30 = .ok (.ireturn, 1) := by decide +kernel
theorem dX10_person_31 : decode cX10_person 31 = .ok (.aload_n 0, 1) := by decide +kernel
theorem dX10_person_32 : decode cX10_person 32 = .ok (.getfield 9, 3) := by decide +kernel
theorem dX10_person_35 : decode cX10_person 35 = .ok (.iconst 1, 1) := by decide +kernel
theorem dX10_person_36 : decode cX10_person 36 = .ok (.iaload, 1) := by decide +kernel
theorem dX10_person_37 : decode cX10_person 37 = .ok (.istore 4, 2) := by decide +kernel
theorem dX10_person_39 : decode cX10_person 39 = .ok (.iload 4, 2) := by decide +kernel
theorem dX10_person_41 : decode cX10_person 41 = .ok (.bipush 10, 2) := by decide +kernel
theorem dX10_person_43 : decode cX10_person 43 = .ok (.if_icmp .ne 10, 3) := by decide +kernel
theorem dX10_person_46 : decode cX10_person 46 = .ok (.aload_n 0, 1) := by decide +kernel
theorem dX10_person_47 : decode cX10_person 47 = .ok (.ldc 50, 2) := by decide +kernel
theorem dX10_person_49 : decode cX10_person 49 = .ok (.invokevirtual 46, 3) := by decide +kernel
theorem dX10_person_52 : decode cX10_person 52 = .ok (.ireturn, 1) := by decide +kernel
theorem dX10_person_53 : decode cX10_person 53 = .ok (.aload_n 0, 1) := by decide +kernel
theorem dX10_person_54 : decode cX10_person 54 = .ok (.getfield 9, 3) := by decide +kernel
theorem dX10_person_57 : decode cX10_person 57 = .ok (.bipush 49, 2) := by decide +kernel
theorem dX10_person_59 : decode cX10_person 59 = .ok (.iload 4, 2) := by decide +kernel
theorem dX10_person_61 : decode cX10_person 61 = .ok (.iadd, 1) := by decide +kernel
theorem dX10_person_62 : decode cX10_person 62 = .ok (.iload_n 1, 1) := by decide +kernel
theorem dX10_person_63 : decode cX10_person 63 = .ok (.iastore, 1) := by decide +kernel
theorem dX10_person_64 : decode cX10_person 64 = .ok (.aload_n 0, 1) := by decide +kernel
theorem dX10_person_65 : decode cX10_person 65 = .ok (.getfield 9, 3) := by decide +kernel
theorem dX10_person_68 : decode cX10_person 68 = .ok (.bipush 59, 2) := by decide +kernel
theorem dX10_person_70 : decode cX10_person 70 = .ok (.iload 4, 2) := by decide +kernel
theorem dX10_person_72 : decode cX10_person 72 = .ok (.iadd, 1) := by decide +kernel
theorem dX10_person_73 : decode cX10_person 73 = .ok (.iload_n 2, 1) := by decide +kernel
theorem dX10_person_74 : decode cX10_person 74 = .ok (.iastore, 1) := by decide +kernel
theorem dX10_person_75 : decode cX10_person 75 = .ok (.aload_n 0, 1) := by decide +kernel
theorem dX10_person_76 : decode cX10_person 76 = .ok (.getfield 9, 3) := by decide +kernel
theorem dX10_person_79 : decode cX10_person 79 = .ok (.bipush 69, 2) := by decide +kernel
theorem dX10_person_81 : decode cX10_person 81 = .ok (.iload 4, 2) := by decide +kernel
theorem dX10_person_83 : decode cX10_person 83 = .ok (.iadd, 1) := by decide +kernel
theorem dX10_person_84 : decode cX10_person 84 = .ok (.iload_n 3, 1) := by decide +kernel
theorem dX10_person_85 : decode cX10_person 85 = .ok (.iastore, 1) := by decide +kernel
theorem dX10_person_86 : decode cX10_person 86 = .ok (.aload_n 0, 1) := by decide +kernel
theorem dX10_person_87 : decode cX10_person 87 = .ok (.getfield 9, 3) := by decide +kernel
theorem dX10_person_90 : decode cX10_person 90 = .ok (.bipush 79, 2) := by decide +kernel
theorem dX10_person_92 : decode cX10_person 92 = .ok (.iload 4, 2) := by decide +kernel
theorem dX10_person_94 : decode cX10_person 94 = .ok (.iadd, 1) := by decide +kernel
theorem dX10_person_95 : decode cX10_person 95 = .ok (.iconst (-1), 1) := by decide +kernel
theorem dX10_person_96 : decode cX10_person 96 = .ok (.iastore, 1) := by decide +kernel
theorem dX10_person_97 : decode cX10_person 97 = .ok (.aload_n 0, 1) := by decide +kernel
theorem dX10_person_98 : decode cX10_person 98 = .ok (.getfield 9, 3) := by decide +kernel
theorem dX10_person_101 : decode cX10_person 101 = .ok (.bipush 99, 2) := by decide +kernel
theorem dX10_person_103 : decode cX10_person 103 = .ok (.iload 4, 2) := by decide +kernel
theorem dX10_person_105 : decode cX10_person 105 = .ok (.iadd, 1) := by decide +kernel
theorem dX10_person_106 : decode cX10_person 106 = .ok (.iconst (-1), 1) := by decide +kernel
theorem dX10_person_107 : decode cX10_person 107 = .ok (.iastore, 1) := by decide +kernel
theorem dX10_person_108 : decode cX10_person 108 = .ok (.aload_n 0, 1) := by decide +kernel
theorem dX10_person_109 : decode cX10_person 109 = .ok (.getfield 9, 3) := by decide +kernel
theorem dX10_person_112 : decode cX10_person 112 = .ok (.iconst 1, 1) := by decide +kernel
theorem dX10_person_113 : decode cX10_person 113 = .ok (.dup2, 1) := by decide +kernel
theorem dX10_person_114 : decode cX10_person 114 = .ok (.iaload, 1) := by decide +kernel
theorem dX10_person_115 : decode cX10_person 115 = .ok (.iconst 1, 1) := by decide +kernel
theorem dX10_person_116 : decode cX10_person 116 = .ok (.iadd, 1) := by decide +kernel
theorem dX10_person_117 : decode cX10_person 117 = .ok (.iastore, 1) := by decide +kernel
theorem dX10_person_118 : decode cX10_person 118 = .ok (.iload 4, 2) := by decide +kernel
theorem dX10_person_120 : decode cX10_person 120 = .ok (.ireturn, 1) := by decide +kernel
theorem dX10_as_0 : decode cX10_as 0 = .ok (.aload_n 0, 1) := by decide +kernel
theorem dX10_as_1 : decode cX10_as 1 = .ok (.iload_n 1, 1) := by decide +kernel
theorem dX10_as_2 : decode cX10_as 2 = .ok (.invokevirtual 59, 3) := by decide +kernel
theorem dX10_as_5 : decode cX10_as 5 = .ok (.ifCond .eq 12, 3) := by decide +kernel
theorem dX10_as_8 : decode cX10_as 8 = .ok (.iload_n 2, 1) := by decide +kernel
theorem dX10_as_9 : decode cX10_as 9 = .ok (.iconst 0, 1) := by decide +kernel
theorem dX10_as_10 : decode cX10_as 10 = .ok (.iconst 3, 1) := by decide +kernel
theorem dX10_as_11 : decode cX10_as 11 = .ok (.invokestatic 41, 3) := by decide +kernel
theorem dX10_as_14 : decode cX10_as 14 = .ok (.ifCond .ne 10, 3) := by decide +kernel
theorem dX10_as_17 : decode cX10_as 17 = .ok (.aload_n 0, 1) := by decide +kernel
theorem dX10_as_18 : decode cX10_as 18 = .ok (.ldc 45, 2) := by decide +kernel
theorem dX10_as_20 : decode cX10_as 20 = .ok (.invokevirtual 46, 3) := by decide +kernel
theorem dX10_as_23 : decode cX10_as 23 = .ok (.ireturn, 1) := by decide +kernel
theorem dX10_as_24 : decode cX10_as 24 = .ok (.aload_n 0, 1) := by decide +kernel
theorem dX10_as_25 : decode cX10_as 25 = .ok (.getfield 9, 3) := by decide +kernel
theorem dX10_as_28 : decode cX10_as 28 = .ok (.bipush 49, 2) := by decide +kernel
theorem dX10_as_30 : decode cX10_as 30 = .ok (.iload_n 1, 1) := by decide +kernel
theorem dX10_as_31 : decode cX10_as 31 = .ok (.iadd, 1) := by decide +kernel
theorem dX10_as_32 : decode cX10_as 32 = .ok (.iaload, 1) := by decide +kernel
theorem dX10_as_33 : decode cX10_as 33 = .ok (.istore_n 3, 1) := by decide +kernel
theorem dX10_as_34 : decode cX10_as 34 = .ok (.iload_n 2, 1) := by decide +kernel
theorem dX10_as_35 : decode cX10_as 35 = .ok (.ifCond .eq 18, 3) := by decide +kernel
theorem dX10_as_38 : decode cX10_as 38 = .ok (.iload_n 3, 1) := by decide +kernel
theorem dX10_as_39 : decode cX10_as 39 = .ok (.iload_n 2, 1) := by decide +kernel
theorem dX10_as_40 : decode cX10_as 40 = .ok (.if_icmp .eq 13, 3) := by decide +kernel
theorem dX10_as_43 : decode cX10_as 43 = .ok (.iload_n 2, 1) := by decide +kernel
theorem dX10_as_44 : decode cX10_as 44 = .ok (.iconst 2, 1) := by decide +kernel
theorem dX10_as_45 : decode cX10_as 45 = .ok (.if_icmp .ne 12, 3) := by decide +kernel
theorem dX10_as_48 : decode cX10_as 48 = .ok (.iload_n 3, 1) := by decide +kernel
theorem dX10_as_49 : decode cX10_as 49 = .ok (.iconst 3, 1) := by decide +kernel
theorem dX10_as_50 : decode cX10_as 50 = .ok (.if_icmp .ne 7, 3) := by decide +kernel
theorem dX10_as_53 : decode cX10_as 53 = .ok (.iload_n 1, 1) := by decide +kernel
theorem dX10_as_54 : decode cX10_as 54 = .ok (.goto 9, 3) := by decide +kernel
theorem dX10_as_57 : decode cX10_as 57 = .ok (.aload_n 0, 1) := by decide +kernel
theorem dX10_as_58 : decode cX10_as 58 = .ok (.ldc 62, 2) := by decide +kernel
theorem dX10_as_60 : decode cX10_as 60 = .ok (.invokevirtual 46, 3) := by decide +kernel
theorem dX10_as_63 : decode cX10_as 63 = .ok (.ireturn, 1) := by decide +kernel
theorem dX10_link_0 : decode cX10_link 0 = .ok (.iload_n 2, 1) := by decide +kernel
theorem dX10_link_1 : decode cX10_link 1 = .ok (.istore 4, 2) := by decide +kernel
theorem dX10_link_3 : decode cX10_link 3 = .ok (.iload 4, 2) := by decide +kernel
theorem dX10_link_5 : decode cX10_link 5 = .ok (.ifCond .lt 31, 3) := by decide +kernel
theorem dX10_link_8 : decode cX10_link 8 = .ok (.iload 4, 2) := by decide +kernel
theorem dX10_link_10 : decode cX10_link 10 = .ok (.iload_n 1, 1) := by decide +kernel
theorem dX10_link_11 : decode cX10_link 11 = .ok (.if_icmp .ne 10, 3) := by decide +kernel
theorem dX10_link_14 : decode cX10_link 14 = .ok (.aload_n 0, 1) := by decide +kernel
theorem dX10_link_15 : decode cX10_link 15 = .ok (.ldc 63, 2) := by decide +kernel
theorem dX10_link_17 : decode cX10_link 17 = .ok (.invokevirtual 46, 3) := by decide +kernel
theorem dX10_link_20 : decode cX10_link 20 = .ok (.ireturn, 1) := by decide +kernel
theorem dX10_link_21 : decode cX10_link 21 = .ok (.aload_n 0, 1) := by decide +kernel
theorem dX10_link_22 : decode cX10_link 22 = .ok (.getfield 9, 3) := by decide +kernel
theorem dX10_link_25 : decode cX10_link 25 = .ok (.bipush 79, 2) := by decide +kernel
theorem dX10_link_27 : decode cX10_link 27 = .ok (.iload 4, 2) := by decide +kernel
theorem dX10_link_29 : decode cX10_link 29 = .ok (.iadd, 1) := by decide +kernel
theorem dX10_link_30 : decode cX10_link 30 = .ok (.iaload, 1) := by decide +kernel
theorem dX10_link_31 : decode cX10_link 31 = .ok (.istore 4, 2) := by decide +kernel
theorem dX10_link_33 : decode cX10_link 33 = .ok (.goto (-30), 3) := by decide +kernel
theorem dX10_link_36 : decode cX10_link 36 = .ok (.aload_n 0, 1) := by decide +kernel
theorem dX10_link_37 : decode cX10_link 37 = .ok (.getfield 9, 3) := by decide +kernel
theorem dX10_link_40 : decode cX10_link 40 = .ok (.bipush 79, 2) := by decide +kernel
theorem dX10_link_42 : decode cX10_link 42 = .ok (.iload_n 1, 1) := by decide +kernel
theorem dX10_link_43 : decode cX10_link 43 = .ok (.iadd, 1) := by decide +kernel
theorem dX10_link_44 : decode cX10_link 44 = .ok (.iaload, 1) := by decide +kernel
theorem dX10_link_45 : decode cX10_link 45 = .ok (.istore 4, 2) := by decide +kernel
theorem dX10_link_47 : decode cX10_link 47 = .ok (.aload_n 0, 1) := by decide +kernel
theorem dX10_link_48 : decode cX10_link 48 = .ok (.getfield 9, 3) := by decide +kernel
theorem dX10_link_51 : decode cX10_link 51 = .ok (.bipush 79, 2) := by decide +kernel
theorem dX10_link_53 : decode cX10_link 53 = .ok (.iload_n 1, 1) := by decide +kernel
theorem dX10_link_54 : decode cX10_link 54 = .ok (.iadd, 1) := by decide +kernel
theorem dX10_link_55 : decode cX10_link 55 = .ok (.iload_n 2, 1) := by decide +kernel
theorem dX10_link_56 : decode cX10_link 56 = .ok (.iastore, 1) := by decide +kernel
theorem dX10_link_57 : decode cX10_link 57 = .ok (.aload_n 0, 1) := by decide +kernel
theorem dX10_link_58 : decode cX10_link 58 = .ok (.getfield 9, 3) := by decide +kernel
theorem dX10_link_61 : decode cX10_link 61 = .ok (.bipush 89, 2) := by decide +kernel
theorem dX10_link_63 : decode cX10_link 63 = .ok (.iload_n 1, 1) := by decide +kernel
theorem dX10_link_64 : decode cX10_link 64 = .ok (.iadd, 1) := by decide +kernel
theorem dX10_link_65 : decode cX10_link 65 = .ok (.iload_n 3, 1) := by decide +kernel
theorem dX10_link_66 : decode cX10_link 66 = .ok (.iastore, 1) := by decide +kernel
theorem dX10_link_67 : decode cX10_link 67 = .ok (.iload 4, 2) := by decide +kernel
theorem dX10_link_69 : decode cX10_link 69 = .ok (.ireturn, 1) := by decide +kernel
theorem dX10_husband_0 : decode cX10_husband 0 = .ok (.aload_n 0, 1) := by decide +kernel
theorem dX10_husband_1 : decode cX10_husband 1 = .ok (.iload_n 1, 1) := by decide +kernel
theorem dX10_husband_2 : decode cX10_husband 2 = .ok (.invokevirtual 59, 3) := by decide +kernel
theorem dX10_husband_5 : decode cX10_husband 5 = .ok (.ifCond .eq 23, 3) := by decide +kernel
theorem dX10_husband_8 : decode cX10_husband 8 = .ok (.iload_n 2, 1) := by decide +kernel
theorem dX10_husband_9 : decode cX10_husband 9 = .ok (.iconst (-1), 1) := by decide +kernel
theorem dX10_husband_10 : decode cX10_husband 10 = .ok (.if_icmp .eq 25, 3) := by decide +kernel
theorem dX10_husband_13 : decode cX10_husband 13 = .ok (.aload_n 0, 1) := by decide +kernel
theorem dX10_husband_14 : decode cX10_husband 14 = .ok (.iload_n 2, 1) := by decide +kernel
theorem dX10_husband_15 : decode cX10_husband 15 = .ok (.invokevirtual 59, 3) := by decide +kernel
theorem dX10_husband_18 : decode cX10_husband 18 = .ok (.ifCond .eq 10, 3) := by decide +kernel
theorem dX10_husband_21 : decode cX10_husband 21 = .ok (.iload_n 3, 1) := by decide +kernel
theorem dX10_husband_22 : decode cX10_husband 22 = .ok (.invokestatic 56, 3) := by decide +kernel
theorem dX10_husband_25 : decode cX10_husband 25 = .ok (.ifCond .ne 10, 3) := by decide +kernel
theorem dX10_husband_28 : decode cX10_husband 28 = .ok (.aload_n 0, 1) := by decide +kernel
theorem dX10_husband_29 : decode cX10_husband 29 = .ok (.ldc 45, 2) := by decide +kernel
theorem dX10_husband_31 : decode cX10_husband 31 = .ok (.invokevirtual 46, 3) := by decide +kernel
theorem dX10_husband_34 : decode cX10_husband 34 = .ok (.ireturn, 1) := by decide +kernel
theorem dX10_husband_35 : decode cX10_husband 35 = .ok (.aload_n 0, 1) := by decide +kernel
theorem dX10_husband_36 : decode cX10_husband 36 = .ok (.getfield 9, 3) := by decide +kernel
theorem dX10_husband_39 : decode cX10_husband 39 = .ok (.bipush 49, 2) := by decide +kernel
theorem dX10_husband_41 : decode cX10_husband 41 = .ok (.iload_n 1, 1) := by decide +kernel
theorem dX10_husband_42 : decode cX10_husband 42 = .ok (.iadd, 1) := by decide +kernel
theorem dX10_husband_43 : decode cX10_husband 43 = .ok (.iaload, 1) := by decide +kernel
theorem dX10_husband_44 : decode cX10_husband 44 = .ok (.iconst 1, 1) := by decide +kernel
theorem dX10_husband_45 : decode cX10_husband 45 = .ok (.if_icmp .ne 13, 3) := by decide +kernel
theorem dX10_husband_48 : decode cX10_husband 48 = .ok (.aload_n 0, 1) := by decide +kernel
theorem dX10_husband_49 : decode cX10_husband 49 = .ok (.iload_n 1, 1) := by decide +kernel
theorem dX10_husband_50 : decode cX10_husband 50 = .ok (.iload_n 2, 1) := by decide +kernel
theorem dX10_husband_51 : decode cX10_husband 51 = .ok (.iload_n 3, 1) := by decide +kernel
theorem dX10_husband_52 : decode cX10_husband 52 = .ok (.invokevirtual 64, 3) := by decide +kernel
theorem dX10_husband_55 : decode cX10_husband 55 = .ok (.goto 9, 3) := by decide +kernel
theorem dX10_husband_58 : decode cX10_husband 58 = .ok (.aload_n 0, 1) := by decide +kernel
theorem dX10_husband_59 : decode cX10_husband 59 = .ok (.ldc 62, 2) := by decide +kernel
theorem dX10_husband_61 : decode cX10_husband 61 = .ok (.invokevirtual 46, 3) := by decide +kernel
theorem dX10_husband_64 : decode cX10_husband 64 = .ok (.ireturn, 1) := by decide +kernel
theorem dX10_father_0 : decode cX10_father 0 = .ok (.aload_n 0, 1) := by decide +kernel
theorem dX10_father_1 : decode cX10_father 1 = .ok (.iload_n 1, 1) := by decide +kernel
theorem dX10_father_2 : decode cX10_father 2 = .ok (.invokevirtual 59, 3) := by decide +kernel
theorem dX10_father_5 : decode cX10_father 5 = .ok (.ifCond .eq 16, 3) := by decide +kernel
theorem dX10_father_8 : decode cX10_father 8 = .ok (.iload_n 2, 1) := by decide +kernel
theorem dX10_father_9 : decode cX10_father 9 = .ok (.iconst (-1), 1) := by decide +kernel
theorem dX10_father_10 : decode cX10_father 10 = .ok (.if_icmp .eq 18, 3) := by decide +kernel
theorem dX10_father_13 : decode cX10_father 13 = .ok (.aload_n 0, 1) := by decide +kernel
theorem dX10_father_14 : decode cX10_father 14 = .ok (.iload_n 2, 1) := by decide +kernel
theorem dX10_father_15 : decode cX10_father 15 = .ok (.invokevirtual 59, 3) := by decide +kernel
theorem dX10_father_18 : decode cX10_father 18 = .ok (.ifCond .ne 10, 3) := by decide +kernel
theorem dX10_father_21 : decode cX10_father 21 = .ok (.aload_n 0, 1) := by decide +kernel
theorem dX10_father_22 : decode cX10_father 22 = .ok (.ldc 45, 2) := by decide +kernel
theorem dX10_father_24 : decode cX10_father 24 = .ok (.invokevirtual 46, 3) := by decide +kernel
theorem dX10_father_27 : decode cX10_father 27 = .ok (.ireturn, 1) := by decide +kernel
theorem dX10_father_28 : decode cX10_father 28 = .ok (.aload_n 0, 1) := by decide +kernel
theorem dX10_father_29 : decode cX10_father 29 = .ok (.getfield 9, 3) := by decide +kernel
theorem dX10_father_32 : decode cX10_father 32 = .ok (.bipush 49, 2) := by decide +kernel
theorem dX10_father_34 : decode cX10_father 34 = .ok (.iload_n 1, 1) := by decide +kernel
theorem dX10_father_35 : decode cX10_father 35 = .ok (.iadd, 1) := by decide +kernel
theorem dX10_father_36 : decode cX10_father 36 = .ok (.iaload, 1) := by decide +kernel
theorem dX10_father_37 : decode cX10_father 37 = .ok (.iconst 2, 1) := by decide +kernel
theorem dX10_father_38 : decode cX10_father 38 = .ok (.if_icmp .ne 13, 3) := by decide +kernel
theorem dX10_father_41 : decode cX10_father 41 = .ok (.aload_n 0, 1) := by decide +kernel
theorem dX10_father_42 : decode cX10_father 42 = .ok (.iload_n 1, 1) := by decide +kernel
theorem dX10_father_43 : decode cX10_father 43 = .ok (.iload_n 2, 1) := by decide +kernel
theorem dX10_father_44 : decode cX10_father 44 = .ok (.iconst 0, 1) := by decide +kernel
theorem dX10_father_45 : decode cX10_father 45 = .ok (.invokevirtual 64, 3) := by decide +kernel
theorem dX10_father_48 : decode cX10_father 48 = .ok (.goto 9, 3) := by decide +kernel
theorem dX10_father_51 : decode cX10_father 51 = .ok (.aload_n 0, 1) := by decide +kernel
theorem dX10_father_52 : decode cX10_father 52 = .ok (.ldc 62, 2) := by decide +kernel
theorem dX10_father_54 : decode cX10_father 54 = .ok (.invokevirtual 46, 3) := by decide +kernel
theorem dX10_father_57 : decode cX10_father 57 = .ok (.ireturn, 1) := by decide +kernel
theorem dX10_fact_0 : decode cX10_fact 0 = .ok (.iload_n 1, 1) := by decide +kernel
theorem dX10_fact_1 : decode cX10_fact 1 = .ok (.iconst 0, 1) := by decide +kernel
theorem dX10_fact_2 : decode cX10_fact 2 = .ok (.iconst 1, 1) := by decide +kernel
theorem dX10_fact_3 : decode cX10_fact 3 = .ok (.invokestatic 41, 3) := by decide +kernel
theorem dX10_fact_6 : decode cX10_fact 6 = .ok (.ifCond .eq 38, 3) := by decide +kernel
theorem dX10_fact_9 : decode cX10_fact 9 = .ok (.aload_n 0, 1) := by decide +kernel
theorem dX10_fact_10 : decode cX10_fact 10 = .ok (.iload_n 2, 1) := by decide +kernel
theorem dX10_fact_11 : decode cX10_fact 11 = .ok (.invokevirtual 59, 3) := by decide +kernel
theorem dX10_fact_14 : decode cX10_fact 14 = .ok (.ifCond .eq 30, 3) := by decide +kernel
theorem dX10_fact_17 : decode cX10_fact 17 = .ok (.aload_n 0, 1) := by decide +kernel
theorem dX10_fact_18 : decode cX10_fact 18 = .ok (.iload_n 3, 1) := by decide +kernel
theorem dX10_fact_19 : decode cX10_fact 19 = .ok (.invokevirtual 51, 3) := by decide +kernel
theorem dX10_fact_22 : decode cX10_fact 22 = .ok (.ifCond .eq 22, 3) := by decide +kernel
theorem dX10_fact_25 : decode cX10_fact 25 = .ok (.iload_n 1, 1) := by decide +kernel
theorem dX10_fact_26 : decode cX10_fact 26 = .ok (.ifCond .eq 14, 3) := by decide +kernel
theorem dX10_fact_29 : decode cX10_fact 29 = .ok (.iload 4, 2) := by decide +kernel
theorem dX10_fact_31 : decode cX10_fact 31 = .ok (.iconst 0, 1) := by decide +kernel
theorem dX10_fact_32 : decode cX10_fact 32 = .ok (.bipush 99, 2) := by decide +kernel
theorem dX10_fact_34 : decode cX10_fact 34 = .ok (.invokestatic 41, 3) := by decide +kernel
theorem dX10_fact_37 : decode cX10_fact 37 = .ok (.ifCond .eq 7, 3) := by decide +kernel
theorem dX10_fact_40 : decode cX10_fact 40 = .ok (.iconst 1, 1) := by decide +kernel
theorem dX10_fact_41 : decode cX10_fact 41 = .ok (.goto 4, 3) := by decide +kernel
theorem dX10_fact_44 : decode cX10_fact 44 = .ok (.iconst 0, 1) := by decide +kernel
theorem dX10_fact_45 : decode cX10_fact 45 = .ok (.istore 8, 2) := by decide +kernel
theorem dX10_fact_47 : decode cX10_fact 47 = .ok (.iload 8, 2) := by decide +kernel
theorem dX10_fact_49 : decode cX10_fact 49 = .ok (.ifCond .eq 27, 3) := by decide +kernel
theorem dX10_fact_52 : decode cX10_fact 52 = .ok (.iload 5, 2) := by decide +kernel
theorem dX10_fact_54 : decode cX10_fact 54 = .ok (.invokestatic 56, 3) := by decide +kernel
theorem dX10_fact_57 : decode cX10_fact 57 = .ok (.ifCond .eq 19, 3) := by decide +kernel
theorem dX10_fact_60 : decode cX10_fact 60 = .ok (.iload 6, 2) := by decide +kernel
theorem dX10_fact_62 : decode cX10_fact 62 = .ok (.invokestatic 56, 3) := by decide +kernel
theorem dX10_fact_65 : decode cX10_fact 65 = .ok (.ifCond .eq 11, 3) := by decide +kernel
theorem dX10_fact_68 : decode cX10_fact 68 = .ok (.iload 7, 2) := by decide +kernel
theorem dX10_fact_70 : decode cX10_fact 70 = .ok (.invokestatic 56, 3) := by decide +kernel
theorem dX10_fact_73 : decode cX10_fact 73 = .ok (.ifCond .ne 10, 3) := by decide +kernel
theorem dX10_fact_76 : decode cX10_fact 76 = .ok (.aload_n 0, 1) := by decide +kernel
theorem dX10_fact_77 : decode cX10_fact 77 = .ok (.ldc 45, 2) := by decide +kernel
theorem dX10_fact_79 : decode cX10_fact 79 = .ok (.invokevirtual 46, 3) := by decide +kernel
theorem dX10_fact_82 : decode cX10_fact 82 = .ok (.ireturn, 1) := by decide +kernel
theorem dX10_fact_83 : decode cX10_fact 83 = .ok (.iload 5, 2) := by decide +kernel
theorem dX10_fact_85 : decode cX10_fact 85 = .ok (.iload 6, 2) := by decide +kernel
theorem dX10_fact_87 : decode cX10_fact 87 = .ok (.if_icmp .le 10, 3) := by decide +kernel
theorem dX10_fact_90 : decode cX10_fact 90 = .ok (.aload_n 0, 1) := by decide +kernel
theorem dX10_fact_91 : decode cX10_fact 91 = .ok (.ldc 55, 2) := by decide +kernel
theorem dX10_fact_93 : decode cX10_fact 93 = .ok (.invokevirtual 46, 3) := by decide +kernel
theorem dX10_fact_96 : decode cX10_fact 96 = .ok (.ireturn, 1) := by decide +kernel
theorem dX10_fact_97 : decode cX10_fact 97 = .ok (.aload_n 0, 1) := by decide +kernel
theorem dX10_fact_98 : decode cX10_fact 98 = .ok (.getfield 9, 3) := by decide +kernel
theorem dX10_fact_101 : decode cX10_fact 101 = .ok (.iconst 2, 1) := by decide +kernel
theorem dX10_fact_102 : decode cX10_fact 102 = .ok (.iaload, 1) := by decide +kernel
theorem dX10_fact_103 : decode cX10_fact 103 = .ok (.istore 9, 2) := by decide +kernel
theorem dX10_fact_105 : decode cX10_fact 105 = .ok (.iload 9, 2) := by decide +kernel
theorem dX10_fact_107 : decode cX10_fact 107 = .ok (.bipush 24, 2) := by decide +kernel
theorem dX10_fact_109 : decode cX10_fact 109 = .ok (.if_icmp .ne 10, 3) := by decide +kernel
theorem dX10_fact_112 : decode cX10_fact 112 = .ok (.aload_n 0, 1) := by decide +kernel
theorem dX10_fact_113 : decode cX10_fact 113 = .ok (.ldc 50, 2) := by decide +kernel
theorem dX10_fact_115 : decode cX10_fact 115 = .ok (.invokevirtual 46, 3) := by decide +kernel
theorem dX10_fact_118 : decode cX10_fact 118 = .ok (.ireturn, 1) := by decide +kernel
theorem dX10_fact_119 : decode cX10_fact 119 = .ok (.aload_n 0, 1) := by decide +kernel
theorem dX10_fact_120 : decode cX10_fact 120 = .ok (.getfield 9, 3) := by decide +kernel
theorem dX10_fact_123 : decode cX10_fact 123 = .ok (.sipush 129, 3) := by decide +kernel
theorem dX10_fact_126 : decode cX10_fact 126 = .ok (.iload 9, 2) := by decide +kernel
theorem dX10_fact_128 : decode cX10_fact 128 = .ok (.iadd, 1) := by decide +kernel
theorem dX10_fact_129 : decode cX10_fact 129 = .ok (.iload_n 1, 1) := by decide +kernel
theorem dX10_fact_130 : decode cX10_fact 130 = .ok (.iastore, 1) := by decide +kernel
theorem dX10_fact_131 : decode cX10_fact 131 = .ok (.aload_n 0, 1) := by decide +kernel
theorem dX10_fact_132 : decode cX10_fact 132 = .ok (.getfield 9, 3) := by decide +kernel
theorem dX10_fact_135 : decode cX10_fact 135 = .ok (.sipush 153, 3) := by decide +kernel
theorem dX10_fact_138 : decode cX10_fact 138 = .ok (.iload 9, 2) := by decide +kernel
theorem dX10_fact_140 : decode cX10_fact 140 = .ok (.iadd, 1) := by decide +kernel
theorem dX10_fact_141 : decode cX10_fact 141 = .ok (.iload_n 2, 1) := by decide +kernel
theorem dX10_fact_142 : decode cX10_fact 142 = .ok (.iastore, 1) := by decide +kernel
theorem dX10_fact_143 : decode cX10_fact 143 = .ok (.aload_n 0, 1) := by decide +kernel
theorem dX10_fact_144 : decode cX10_fact 144 = .ok (.getfield 9, 3) := by decide +kernel
theorem dX10_fact_147 : decode cX10_fact 147 = .ok (.sipush 177, 3) := by decide +kernel
theorem dX10_fact_150 : decode cX10_fact 150 = .ok (.iload 9, 2) := by decide +kernel
theorem dX10_fact_152 : decode cX10_fact 152 = .ok (.iadd, 1) := by decide +kernel
theorem dX10_fact_153 : decode cX10_fact 153 = .ok (.iload_n 3, 1) := by decide +kernel
theorem dX10_fact_154 : decode cX10_fact 154 = .ok (.iastore, 1) := by decide +kernel
theorem dX10_fact_155 : decode cX10_fact 155 = .ok (.aload_n 0, 1) := by decide +kernel
theorem dX10_fact_156 : decode cX10_fact 156 = .ok (.getfield 9, 3) := by decide +kernel
theorem dX10_fact_159 : decode cX10_fact 159 = .ok (.sipush 201, 3) := by decide +kernel
theorem dX10_fact_162 : decode cX10_fact 162 = .ok (.iload 9, 2) := by decide +kernel
theorem dX10_fact_164 : decode cX10_fact 164 = .ok (.iadd, 1) := by decide +kernel
theorem dX10_fact_165 : decode cX10_fact 165 = .ok (.iload_n 1, 1) := by decide +kernel
theorem dX10_fact_166 : decode cX10_fact 166 = .ok (.ifCond .ne 7, 3) := by decide +kernel
theorem dX10_fact_169 : decode cX10_fact 169 = .ok (.iconst 0, 1) := by decide +kernel
theorem dX10_fact_170 : decode cX10_fact 170 = .ok (.goto 5, 3) := by decide +kernel
theorem dX10_fact_173 : decode cX10_fact 173 = .ok (.iload 4, 2) := by decide +kernel
theorem dX10_fact_175 : decode cX10_fact 175 = .ok (.iastore, 1) := by decide +kernel
theorem dX10_fact_176 : decode cX10_fact 176 = .ok (.aload_n 0, 1) := by decide +kernel
theorem dX10_fact_177 : decode cX10_fact 177 = .ok (.getfield 9, 3) := by decide +kernel
theorem dX10_fact_180 : decode cX10_fact 180 = .ok (.sipush 225, 3) := by decide +kernel
theorem dX10_fact_183 : decode cX10_fact 183 = .ok (.iload 9, 2) := by decide +kernel
theorem dX10_fact_185 : decode cX10_fact 185 = .ok (.iadd, 1) := by decide +kernel
theorem dX10_fact_186 : decode cX10_fact 186 = .ok (.iload 5, 2) := by decide +kernel
theorem dX10_fact_188 : decode cX10_fact 188 = .ok (.iastore, 1) := by decide +kernel
theorem dX10_fact_189 : decode cX10_fact 189 = .ok (.aload_n 0, 1) := by decide +kernel
theorem dX10_fact_190 : decode cX10_fact 190 = .ok (.getfield 9, 3) := by decide +kernel
theorem dX10_fact_193 : decode cX10_fact 193 = .ok (.sipush 249, 3) := by decide +kernel
theorem dX10_fact_196 : decode cX10_fact 196 = .ok (.iload 9, 2) := by decide +kernel
theorem dX10_fact_198 : decode cX10_fact 198 = .ok (.iadd, 1) := by decide +kernel
theorem dX10_fact_199 : decode cX10_fact 199 = .ok (.iload 6, 2) := by decide +kernel
theorem dX10_fact_201 : decode cX10_fact 201 = .ok (.iastore, 1) := by decide +kernel
theorem dX10_fact_202 : decode cX10_fact 202 = .ok (.aload_n 0, 1) := by decide +kernel
theorem dX10_fact_203 : decode cX10_fact 203 = .ok (.getfield 9, 3) := by decide +kernel
theorem dX10_fact_206 : decode cX10_fact 206 = .ok (.sipush 273, 3) := by decide +kernel
theorem dX10_fact_209 : decode cX10_fact 209 = .ok (.iload 9, 2) := by decide +kernel
theorem dX10_fact_211 : decode cX10_fact 211 = .ok (.iadd, 1) := by decide +kernel
theorem dX10_fact_212 : decode cX10_fact 212 = .ok (.iload 7, 2) := by decide +kernel
theorem dX10_fact_214 : decode cX10_fact 214 = .ok (.iastore, 1) := by decide +kernel
theorem dX10_fact_215 : decode cX10_fact 215 = .ok (.aload_n 0, 1) := by decide +kernel
theorem dX10_fact_216 : decode cX10_fact 216 = .ok (.getfield 9, 3) := by decide +kernel
theorem dX10_fact_219 : decode cX10_fact 219 = .ok (.sipush 297, 3) := by decide +kernel
theorem dX10_fact_222 : decode cX10_fact 222 = .ok (.iload 9, 2) := by decide +kernel
theorem dX10_fact_224 : decode cX10_fact 224 = .ok (.iadd, 1) := by decide +kernel
theorem dX10_fact_225 : decode cX10_fact 225 = .ok (.iconst 0, 1) := by decide +kernel
theorem dX10_fact_226 : decode cX10_fact 226 = .ok (.iastore, 1) := by decide +kernel
theorem dX10_fact_227 : decode cX10_fact 227 = .ok (.aload_n 0, 1) := by decide +kernel
theorem dX10_fact_228 : decode cX10_fact 228 = .ok (.getfield 9, 3) := by decide +kernel
theorem dX10_fact_231 : decode cX10_fact 231 = .ok (.iconst 2, 1) := by decide +kernel
theorem dX10_fact_232 : decode cX10_fact 232 = .ok (.dup2, 1) := by decide +kernel
theorem dX10_fact_233 : decode cX10_fact 233 = .ok (.iaload, 1) := by decide +kernel
theorem dX10_fact_234 : decode cX10_fact 234 = .ok (.iconst 1, 1) := by decide +kernel
theorem dX10_fact_235 : decode cX10_fact 235 = .ok (.iadd, 1) := by decide +kernel
theorem dX10_fact_236 : decode cX10_fact 236 = .ok (.iastore, 1) := by decide +kernel
theorem dX10_fact_237 : decode cX10_fact 237 = .ok (.iload 9, 2) := by decide +kernel
theorem dX10_fact_239 : decode cX10_fact 239 = .ok (.ireturn, 1) := by decide +kernel
theorem dX10_doubts_0 : decode cX10_doubts 0 = .ok (.iconst 0, 1) := by decide +kernel
theorem dX10_doubts_1 : decode cX10_doubts 1 = .ok (.istore_n 1, 1) := by decide +kernel
theorem dX10_doubts_2 : decode cX10_doubts 2 = .ok (.iconst 0, 1) := by decide +kernel
theorem dX10_doubts_3 : decode cX10_doubts 3 = .ok (.istore_n 2, 1) := by decide +kernel
theorem dX10_doubts_4 : decode cX10_doubts 4 = .ok (.iload_n 2, 1) := by decide +kernel
theorem dX10_doubts_5 : decode cX10_doubts 5 = .ok (.aload_n 0, 1) := by decide +kernel
theorem dX10_doubts_6 : decode cX10_doubts 6 = .ok (.getfield 9, 3) := by decide +kernel
theorem dX10_doubts_9 : decode cX10_doubts 9 = .ok (.iconst 2, 1) := by decide +kernel
theorem dX10_doubts_10 : decode cX10_doubts 10 = .ok (.iaload, 1) := by decide +kernel
theorem dX10_doubts_11 : decode cX10_doubts 11 = .ok (.if_icmp .ge 22, 3) := by decide +kernel
theorem dX10_doubts_14 : decode cX10_doubts 14 = .ok (.iload_n 1, 1) := by decide +kernel
theorem dX10_doubts_15 : decode cX10_doubts 15 = .ok (.aload_n 0, 1) := by decide +kernel
theorem dX10_doubts_16 : decode cX10_doubts 16 = .ok (.getfield 9, 3) := by decide +kernel
theorem dX10_doubts_19 : decode cX10_doubts 19 = .ok (.sipush 297, 3) := by decide +kernel
theorem dX10_doubts_22 : decode cX10_doubts 22 = .ok (.iload_n 2, 1) := by decide +kernel
theorem dX10_doubts_23 : decode cX10_doubts 23 = .ok (.iadd, 1) := by decide +kernel
theorem dX10_doubts_24 : decode cX10_doubts 24 = .ok (.iaload, 1) := by decide +kernel
theorem dX10_doubts_25 : decode cX10_doubts 25 = .ok (.iadd, 1) := by decide +kernel
theorem dX10_doubts_26 : decode cX10_doubts 26 = .ok (.istore_n 1, 1) := by decide +kernel
theorem dX10_doubts_27 : decode cX10_doubts 27 = .ok (.iinc 2 1, 3) := by decide +kernel
theorem dX10_doubts_30 : decode cX10_doubts 30 = .ok (.goto (-26), 3) := by decide +kernel
theorem dX10_doubts_33 : decode cX10_doubts 33 = .ok (.iload_n 1, 1) := by decide +kernel
theorem dX10_doubts_34 : decode cX10_doubts 34 = .ok (.ireturn, 1) := by decide +kernel
theorem dX10_doubt_0 : decode cX10_doubt 0 = .ok (.iload_n 1, 1) := by decide +kernel
theorem dX10_doubt_1 : decode cX10_doubt 1 = .ok (.iconst 0, 1) := by decide +kernel
theorem dX10_doubt_2 : decode cX10_doubt 2 = .ok (.aload_n 0, 1) := by decide +kernel
theorem dX10_doubt_3 : decode cX10_doubt 3 = .ok (.getfield 9, 3) := by decide +kernel
theorem dX10_doubt_6 : decode cX10_doubt 6 = .ok (.iconst 2, 1) := by decide +kernel
theorem dX10_doubt_7 : decode cX10_doubt 7 = .ok (.iaload, 1) := by decide +kernel
theorem dX10_doubt_8 : decode cX10_doubt 8 = .ok (.iconst 1, 1) := by decide +kernel
theorem dX10_doubt_9 : decode cX10_doubt 9 = .ok (.isub, 1) := by decide +kernel
theorem dX10_doubt_10 : decode cX10_doubt 10 = .ok (.invokestatic 41, 3) := by decide +kernel
theorem dX10_doubt_13 : decode cX10_doubt 13 = .ok (.ifCond .ne 10, 3) := by decide +kernel
theorem dX10_doubt_16 : decode cX10_doubt 16 = .ok (.aload_n 0, 1) := by decide +kernel
theorem dX10_doubt_17 : decode cX10_doubt 17 = .ok (.ldc 45, 2) := by decide +kernel
theorem dX10_doubt_19 : decode cX10_doubt 19 = .ok (.invokevirtual 46, 3) := by decide +kernel
theorem dX10_doubt_22 : decode cX10_doubt 22 = .ok (.ireturn, 1) := by decide +kernel
theorem dX10_doubt_23 : decode cX10_doubt 23 = .ok (.iload_n 2, 1) := by decide +kernel
theorem dX10_doubt_24 : decode cX10_doubt 24 = .ok (.ifCond .eq 7, 3) := by decide +kernel
theorem dX10_doubt_27 : decode cX10_doubt 27 = .ok (.iconst 1, 1) := by decide +kernel
theorem dX10_doubt_28 : decode cX10_doubt 28 = .ok (.goto 4, 3) := by decide +kernel
theorem dX10_doubt_31 : decode cX10_doubt 31 = .ok (.iconst 0, 1) := by decide +kernel
theorem dX10_doubt_32 : decode cX10_doubt 32 = .ok (.istore_n 3, 1) := by decide +kernel
theorem dX10_doubt_33 : decode cX10_doubt 33 = .ok (.aload_n 0, 1) := by decide +kernel
theorem dX10_doubt_34 : decode cX10_doubt 34 = .ok (.getfield 9, 3) := by decide +kernel
theorem dX10_doubt_37 : decode cX10_doubt 37 = .ok (.sipush 297, 3) := by decide +kernel
theorem dX10_doubt_40 : decode cX10_doubt 40 = .ok (.iload_n 1, 1) := by decide +kernel
theorem dX10_doubt_41 : decode cX10_doubt 41 = .ok (.iadd, 1) := by decide +kernel
theorem dX10_doubt_42 : decode cX10_doubt 42 = .ok (.iaload, 1) := by decide +kernel
theorem dX10_doubt_43 : decode cX10_doubt 43 = .ok (.iload_n 3, 1) := by decide +kernel
theorem dX10_doubt_44 : decode cX10_doubt 44 = .ok (.if_icmp .ne 5, 3) := by decide +kernel
theorem dX10_doubt_47 : decode cX10_doubt 47 = .ok (.iconst 0, 1) := by decide +kernel
theorem dX10_doubt_48 : decode cX10_doubt 48 = .ok (.ireturn, 1) := by decide +kernel
theorem dX10_doubt_49 : decode cX10_doubt 49 = .ok (.iload_n 2, 1) := by decide +kernel
theorem dX10_doubt_50 : decode cX10_doubt 50 = .ok (.ifCond .eq 19, 3) := by decide +kernel
theorem dX10_doubt_53 : decode cX10_doubt 53 = .ok (.aload_n 0, 1) := by decide +kernel
theorem dX10_doubt_54 : decode cX10_doubt 54 = .ok (.invokevirtual 68, 3) := by decide +kernel
theorem dX10_doubt_57 : decode cX10_doubt 57 = .ok (.bipush 8, 2) := by decide +kernel
theorem dX10_doubt_59 : decode cX10_doubt 59 = .ok (.if_icmp .ne 10, 3) := by decide +kernel
theorem dX10_doubt_62 : decode cX10_doubt 62 = .ok (.aload_n 0, 1) := by decide +kernel
theorem dX10_doubt_63 : decode cX10_doubt 63 = .ok (.ldc 50, 2) := by decide +kernel
theorem dX10_doubt_65 : decode cX10_doubt 65 = .ok (.invokevirtual 46, 3) := by decide +kernel
theorem dX10_doubt_68 : decode cX10_doubt 68 = .ok (.ireturn, 1) := by decide +kernel
theorem dX10_doubt_69 : decode cX10_doubt 69 = .ok (.aload_n 0, 1) := by decide +kernel
theorem dX10_doubt_70 : decode cX10_doubt 70 = .ok (.getfield 9, 3) := by decide +kernel
theorem dX10_doubt_73 : decode cX10_doubt 73 = .ok (.sipush 297, 3) := by decide +kernel
theorem dX10_doubt_76 : decode cX10_doubt 76 = .ok (.iload_n 1, 1) := by decide +kernel
theorem dX10_doubt_77 : decode cX10_doubt 77 = .ok (.iadd, 1) := by decide +kernel
theorem dX10_doubt_78 : decode cX10_doubt 78 = .ok (.iload_n 3, 1) := by decide +kernel
theorem dX10_doubt_79 : decode cX10_doubt 79 = .ok (.iastore, 1) := by decide +kernel
theorem dX10_doubt_80 : decode cX10_doubt 80 = .ok (.iconst 1, 1) := by decide +kernel
theorem dX10_doubt_81 : decode cX10_doubt 81 = .ok (.ireturn, 1) := by decide +kernel
theorem dX10_forget_0 : decode cX10_forget 0 = .ok (.aload_n 0, 1) := by decide +kernel
theorem dX10_forget_1 : decode cX10_forget 1 = .ok (.getfield 9, 3) := by decide +kernel
theorem dX10_forget_4 : decode cX10_forget 4 = .ok (.iconst 2, 1) := by decide +kernel
theorem dX10_forget_5 : decode cX10_forget 5 = .ok (.iaload, 1) := by decide +kernel
theorem dX10_forget_6 : decode cX10_forget 6 = .ok (.ifCond .ne 10, 3) := by decide +kernel
theorem dX10_forget_9 : decode cX10_forget 9 = .ok (.aload_n 0, 1) := by decide +kernel
theorem dX10_forget_10 : decode cX10_forget 10 = .ok (.ldc 72, 2) := by decide +kernel
theorem dX10_forget_12 : decode cX10_forget 12 = .ok (.invokevirtual 46, 3) := by decide +kernel
theorem dX10_forget_15 : decode cX10_forget 15 = .ok (.ireturn, 1) := by decide +kernel
theorem dX10_forget_16 : decode cX10_forget 16 = .ok (.aload_n 0, 1) := by decide +kernel
theorem dX10_forget_17 : decode cX10_forget 17 = .ok (.getfield 9, 3) := by decide +kernel
theorem dX10_forget_20 : decode cX10_forget 20 = .ok (.iconst 2, 1) := by decide +kernel
theorem dX10_forget_21 : decode cX10_forget 21 = .ok (.dup2, 1) := by decide +kernel
theorem dX10_forget_22 : decode cX10_forget 22 = .ok (.iaload, 1) := by decide +kernel
theorem dX10_forget_23 : decode cX10_forget 23 = .ok (.iconst 1, 1) := by decide +kernel
theorem dX10_forget_24 : decode cX10_forget 24 = .ok (.isub, 1) := by decide +kernel
theorem dX10_forget_25 : decode cX10_forget 25 = .ok (.iastore, 1) := by decide +kernel
theorem dX10_forget_26 : decode cX10_forget 26 = .ok (.aload_n 0, 1) := by decide +kernel
theorem dX10_forget_27 : decode cX10_forget 27 = .ok (.getfield 9, 3) := by decide +kernel
theorem dX10_forget_30 : decode cX10_forget 30 = .ok (.iconst 2, 1) := by decide +kernel
theorem dX10_forget_31 : decode cX10_forget 31 = .ok (.iaload, 1) := by decide +kernel
theorem dX10_forget_32 : decode cX10_forget 32 = .ok (.ireturn, 1) := by decide +kernel
theorem dX10_law_0 : decode cX10_law 0 = .ok (.iload_n 1, 1) := by decide +kernel
theorem dX10_law_1 : decode cX10_law 1 = .ok (.iconst 1, 1) := by decide +kernel
theorem dX10_law_2 : decode cX10_law 2 = .ok (.if_icmp .eq 13, 3) := by decide +kernel
theorem dX10_law_5 : decode cX10_law 5 = .ok (.iload_n 1, 1) := by decide +kernel
theorem dX10_law_6 : decode cX10_law 6 = .ok (.iconst 2, 1) := by decide +kernel
theorem dX10_law_7 : decode cX10_law 7 = .ok (.if_icmp .eq 8, 3) := by decide +kernel
theorem dX10_law_10 : decode cX10_law 10 = .ok (.iload_n 1, 1) := by decide +kernel
theorem dX10_law_11 : decode cX10_law 11 = .ok (.iconst 4, 1) := by decide +kernel
theorem dX10_law_12 : decode cX10_law 12 = .ok (.if_icmp .ne 7, 3) := by decide +kernel
theorem dX10_law_15 : decode cX10_law 15 = .ok (.iconst 1, 1) := by decide +kernel
theorem dX10_law_16 : decode cX10_law 16 = .ok (.goto 4, 3) := by decide +kernel
theorem dX10_law_19 : decode cX10_law 19 = .ok (.iconst 0, 1) := by decide +kernel
theorem dX10_law_20 : decode cX10_law 20 = .ok (.istore 5, 2) := by decide +kernel
theorem dX10_law_22 : decode cX10_law 22 = .ok (.iload_n 1, 1) := by decide +kernel
theorem dX10_law_23 : decode cX10_law 23 = .ok (.iconst 0, 1) := by decide +kernel
theorem dX10_law_24 : decode cX10_law 24 = .ok (.iconst 4, 1) := by decide +kernel
theorem dX10_law_25 : decode cX10_law 25 = .ok (.invokestatic 41, 3) := by decide +kernel
theorem dX10_law_28 : decode cX10_law 28 = .ok (.ifCond .eq 34, 3) := by decide +kernel
theorem dX10_law_31 : decode cX10_law 31 = .ok (.iload 5, 2) := by decide +kernel
theorem dX10_law_33 : decode cX10_law 33 = .ok (.ifCond .eq 14, 3) := by decide +kernel
theorem dX10_law_36 : decode cX10_law 36 = .ok (.iload_n 2, 1) := by decide +kernel
theorem dX10_law_37 : decode cX10_law 37 = .ok (.iconst 0, 1) := by decide +kernel
theorem dX10_law_38 : decode cX10_law 38 = .ok (.sipush 9999, 3) := by decide +kernel
theorem dX10_law_41 : decode cX10_law 41 = .ok (.invokestatic 41, 3) := by decide +kernel
theorem dX10_law_44 : decode cX10_law 44 = .ok (.ifCond .eq 18, 3) := by decide +kernel
theorem dX10_law_47 : decode cX10_law 47 = .ok (.iload_n 3, 1) := by decide +kernel
theorem dX10_law_48 : decode cX10_law 48 = .ok (.invokestatic 56, 3) := by decide +kernel
theorem dX10_law_51 : decode cX10_law 51 = .ok (.ifCond .eq 11, 3) := by decide +kernel
theorem dX10_law_54 : decode cX10_law 54 = .ok (.iload 4, 2) := by decide +kernel
theorem dX10_law_56 : decode cX10_law 56 = .ok (.invokestatic 56, 3) := by decide +kernel
theorem dX10_law_59 : decode cX10_law 59 = .ok (.ifCond .ne 10, 3) := by decide +kernel
theorem dX10_law_62 : decode cX10_law 62 = .ok (.aload_n 0, 1) := by decide +kernel
theorem dX10_law_63 : decode cX10_law 63 = .ok (.ldc 45, 2) := by decide +kernel
theorem dX10_law_65 : decode cX10_law 65 = .ok (.invokevirtual 46, 3) := by decide +kernel
theorem dX10_law_68 : decode cX10_law 68 = .ok (.ireturn, 1) := by decide +kernel
theorem dX10_law_69 : decode cX10_law 69 = .ok (.iload_n 3, 1) := by decide +kernel
theorem dX10_law_70 : decode cX10_law 70 = .ok (.iload 4, 2) := by decide +kernel
theorem dX10_law_72 : decode cX10_law 72 = .ok (.if_icmp .le 10, 3) := by decide +kernel
theorem dX10_law_75 : decode cX10_law 75 = .ok (.aload_n 0, 1) := by decide +kernel
theorem dX10_law_76 : decode cX10_law 76 = .ok (.ldc 55, 2) := by decide +kernel
theorem dX10_law_78 : decode cX10_law 78 = .ok (.invokevirtual 46, 3) := by decide +kernel
theorem dX10_law_81 : decode cX10_law 81 = .ok (.ireturn, 1) := by decide +kernel
theorem dX10_law_82 : decode cX10_law 82 = .ok (.aload_n 0, 1) := by decide +kernel
theorem dX10_law_83 : decode cX10_law 83 = .ok (.getfield 9, 3) := by decide +kernel
theorem dX10_law_86 : decode cX10_law 86 = .ok (.iconst 3, 1) := by decide +kernel
theorem dX10_law_87 : decode cX10_law 87 = .ok (.iaload, 1) := by decide +kernel
theorem dX10_law_88 : decode cX10_law 88 = .ok (.istore 6, 2) := by decide +kernel
theorem dX10_law_90 : decode cX10_law 90 = .ok (.iload 6, 2) := by decide +kernel
theorem dX10_law_92 : decode cX10_law 92 = .ok (.bipush 12, 2) := by decide +kernel
theorem dX10_law_94 : decode cX10_law 94 = .ok (.if_icmp .ne 10, 3) := by decide +kernel
theorem dX10_law_97 : decode cX10_law 97 = .ok (.aload_n 0, 1) := by decide +kernel
theorem dX10_law_98 : decode cX10_law 98 = .ok (.ldc 50, 2) := by decide +kernel
theorem dX10_law_100 : decode cX10_law 100 = .ok (.invokevirtual 46, 3) := by decide +kernel
theorem dX10_law_103 : decode cX10_law 103 = .ok (.ireturn, 1) := by decide +kernel
theorem dX10_law_104 : decode cX10_law 104 = .ok (.aload_n 0, 1) := by decide +kernel
theorem dX10_law_105 : decode cX10_law 105 = .ok (.getfield 9, 3) := by decide +kernel
theorem dX10_law_108 : decode cX10_law 108 = .ok (.sipush 321, 3) := by decide +kernel
theorem dX10_law_111 : decode cX10_law 111 = .ok (.iload 6, 2) := by decide +kernel
theorem dX10_law_113 : decode cX10_law 113 = .ok (.iadd, 1) := by decide +kernel
theorem dX10_law_114 : decode cX10_law 114 = .ok (.iload_n 1, 1) := by decide +kernel
theorem dX10_law_115 : decode cX10_law 115 = .ok (.iastore, 1) := by decide +kernel
theorem dX10_law_116 : decode cX10_law 116 = .ok (.aload_n 0, 1) := by decide +kernel
theorem dX10_law_117 : decode cX10_law 117 = .ok (.getfield 9, 3) := by decide +kernel
theorem dX10_law_120 : decode cX10_law 120 = .ok (.sipush 333, 3) := by decide +kernel
theorem dX10_law_123 : decode cX10_law 123 = .ok (.iload 6, 2) := by decide +kernel
theorem dX10_law_125 : decode cX10_law 125 = .ok (.iadd, 1) := by decide +kernel
theorem dX10_law_126 : decode cX10_law 126 = .ok (.iload 5, 2) := by decide +kernel
theorem dX10_law_128 : decode cX10_law 128 = .ok (.ifCond .eq 7, 3) := by decide +kernel
theorem dX10_law_131 : decode cX10_law 131 = .ok (.iload_n 2, 1) := by decide +kernel
theorem dX10_law_132 : decode cX10_law 132 = .ok (.goto 4, 3) := by decide +kernel
theorem dX10_law_135 : decode cX10_law 135 = .ok (.iconst 0, 1) := by decide +kernel
theorem dX10_law_136 : decode cX10_law 136 = .ok (.iastore, 1) := by decide +kernel
theorem dX10_law_137 : decode cX10_law 137 = .ok (.aload_n 0, 1) := by decide +kernel
theorem dX10_law_138 : decode cX10_law 138 = .ok (.getfield 9, 3) := by decide +kernel
theorem dX10_law_141 : decode cX10_law 141 = .ok (.sipush 345, 3) := by decide +kernel
theorem dX10_law_144 : decode cX10_law 144 = .ok (.iload 6, 2) := by decide +kernel
theorem dX10_law_146 : decode cX10_law 146 = .ok (.iadd, 1) := by decide +kernel
theorem dX10_law_147 : decode cX10_law 147 = .ok (.iload_n 3, 1) := by decide +kernel
theorem dX10_law_148 : decode cX10_law 148 = .ok (.iastore, 1) := by decide +kernel
theorem dX10_law_149 : decode cX10_law 149 = .ok (.aload_n 0, 1) := by decide +kernel
theorem dX10_law_150 : decode cX10_law 150 = .ok (.getfield 9, 3) := by decide +kernel
theorem dX10_law_153 : decode cX10_law 153 = .ok (.sipush 357, 3) := by decide +kernel
theorem dX10_law_156 : decode cX10_law 156 = .ok (.iload 6, 2) := by decide +kernel
theorem dX10_law_158 : decode cX10_law 158 = .ok (.iadd, 1) := by decide +kernel
theorem dX10_law_159 : decode cX10_law 159 = .ok (.iload 4, 2) := by decide +kernel
theorem dX10_law_161 : decode cX10_law 161 = .ok (.iastore, 1) := by decide +kernel
theorem dX10_law_162 : decode cX10_law 162 = .ok (.aload_n 0, 1) := by decide +kernel
theorem dX10_law_163 : decode cX10_law 163 = .ok (.getfield 9, 3) := by decide +kernel
theorem dX10_law_166 : decode cX10_law 166 = .ok (.iconst 3, 1) := by decide +kernel
theorem dX10_law_167 : decode cX10_law 167 = .ok (.dup2, 1) := by decide +kernel
theorem dX10_law_168 : decode cX10_law 168 = .ok (.iaload, 1) := by decide +kernel
theorem dX10_law_169 : decode cX10_law 169 = .ok (.iconst 1, 1) := by decide +kernel
theorem dX10_law_170 : decode cX10_law 170 = .ok (.iadd, 1) := by decide +kernel
theorem dX10_law_171 : decode cX10_law 171 = .ok (.iastore, 1) := by decide +kernel
theorem dX10_law_172 : decode cX10_law 172 = .ok (.iload 6, 2) := by decide +kernel
theorem dX10_law_174 : decode cX10_law 174 = .ok (.ireturn, 1) := by decide +kernel
theorem dX10_ends_0 : decode cX10_ends 0 = .ok (.iload_n 1, 1) := by decide +kernel
theorem dX10_ends_1 : decode cX10_ends 1 = .ok (.iconst 0, 1) := by decide +kernel
theorem dX10_ends_2 : decode cX10_ends 2 = .ok (.aload_n 0, 1) := by decide +kernel
theorem dX10_ends_3 : decode cX10_ends 3 = .ok (.getfield 9, 3) := by decide +kernel
theorem dX10_ends_6 : decode cX10_ends 6 = .ok (.iconst 3, 1) := by decide +kernel
theorem dX10_ends_7 : decode cX10_ends 7 = .ok (.iaload, 1) := by decide +kernel
theorem dX10_ends_8 : decode cX10_ends 8 = .ok (.iconst 1, 1) := by decide +kernel
theorem dX10_ends_9 : decode cX10_ends 9 = .ok (.isub, 1) := by decide +kernel
theorem dX10_ends_10 : decode cX10_ends 10 = .ok (.invokestatic 41, 3) := by decide +kernel
theorem dX10_ends_13 : decode cX10_ends 13 = .ok (.ifCond .eq 10, 3) := by decide +kernel
theorem dX10_ends_16 : decode cX10_ends 16 = .ok (.iload_n 2, 1) := by decide +kernel
theorem dX10_ends_17 : decode cX10_ends 17 = .ok (.invokestatic 56, 3) := by decide +kernel
theorem dX10_ends_20 : decode cX10_ends 20 = .ok (.ifCond .ne 10, 3) := by decide +kernel
end
section
theorem dX10_ends_23 : decode cX10_ends 23 = .ok (.aload_n 0, 1) := by decide +kernel
theorem dX10_ends_24 : decode cX10_ends 24 = .ok (.ldc 45, 2) := by decide +kernel
theorem dX10_ends_26 : decode cX10_ends 26 = .ok (.invokevirtual 46, 3) := by decide +kernel
theorem dX10_ends_29 : decode cX10_ends 29 = .ok (.ireturn, 1) := by decide +kernel
theorem dX10_ends_30 : decode cX10_ends 30 = .ok (.iload_n 2, 1) := by decide +kernel
theorem dX10_ends_31 : decode cX10_ends 31 = .ok (.aload_n 0, 1) := by decide +kernel
theorem dX10_ends_32 : decode cX10_ends 32 = .ok (.getfield 9, 3) := by decide +kernel
theorem dX10_ends_35 : decode cX10_ends 35 = .ok (.sipush 345, 3) := by decide +kernel
theorem dX10_ends_38 : decode cX10_ends 38 = .ok (.iload_n 1, 1) := by decide +kernel
theorem dX10_ends_39 : decode cX10_ends 39 = .ok (.iadd, 1) := by decide +kernel
theorem dX10_ends_40 : decode cX10_ends 40 = .ok (.iaload, 1) := by decide +kernel
theorem dX10_ends_41 : decode cX10_ends 41 = .ok (.if_icmp .ge 10, 3) := by decide +kernel
theorem dX10_ends_44 : decode cX10_ends 44 = .ok (.aload_n 0, 1) := by decide +kernel
theorem dX10_ends_45 : decode cX10_ends 45 = .ok (.ldc 55, 2) := by decide +kernel
theorem dX10_ends_47 : decode cX10_ends 47 = .ok (.invokevirtual 46, 3) := by decide +kernel
theorem dX10_ends_50 : decode cX10_ends 50 = .ok (.ireturn, 1) := by decide +kernel
theorem dX10_ends_51 : decode cX10_ends 51 = .ok (.aload_n 0, 1) := by decide +kernel
theorem dX10_ends_52 : decode cX10_ends 52 = .ok (.getfield 9, 3) := by decide +kernel
theorem dX10_ends_55 : decode cX10_ends 55 = .ok (.sipush 357, 3) := by decide +kernel
theorem dX10_ends_58 : decode cX10_ends 58 = .ok (.iload_n 1, 1) := by decide +kernel
theorem dX10_ends_59 : decode cX10_ends 59 = .ok (.iadd, 1) := by decide +kernel
theorem dX10_ends_60 : decode cX10_ends 60 = .ok (.iaload, 1) := by decide +kernel
theorem dX10_ends_61 : decode cX10_ends 61 = .ok (.istore_n 3, 1) := by decide +kernel
theorem dX10_ends_62 : decode cX10_ends 62 = .ok (.aload_n 0, 1) := by decide +kernel
theorem dX10_ends_63 : decode cX10_ends 63 = .ok (.getfield 9, 3) := by decide +kernel
theorem dX10_ends_66 : decode cX10_ends 66 = .ok (.sipush 357, 3) := by decide +kernel
theorem dX10_ends_69 : decode cX10_ends 69 = .ok (.iload_n 1, 1) := by decide +kernel
theorem dX10_ends_70 : decode cX10_ends 70 = .ok (.iadd, 1) := by decide +kernel
theorem dX10_ends_71 : decode cX10_ends 71 = .ok (.iload_n 2, 1) := by decide +kernel
theorem dX10_ends_72 : decode cX10_ends 72 = .ok (.iastore, 1) := by decide +kernel
theorem dX10_ends_73 : decode cX10_ends 73 = .ok (.iload_n 3, 1) := by decide +kernel
theorem dX10_ends_74 : decode cX10_ends 74 = .ok (.ireturn, 1) := by decide +kernel
theorem dX10_isForce_0 : decode cX10_isForce 0 = .ok (.aload_n 0, 1) := by decide +kernel
theorem dX10_isForce_1 : decode cX10_isForce 1 = .ok (.getfield 9, 3) := by decide +kernel
theorem dX10_isForce_4 : decode cX10_isForce 4 = .ok (.sipush 321, 3) := by decide +kernel
theorem dX10_isForce_7 : decode cX10_isForce 7 = .ok (.iload_n 1, 1) := by decide +kernel
theorem dX10_isForce_8 : decode cX10_isForce 8 = .ok (.iadd, 1) := by decide +kernel
theorem dX10_isForce_9 : decode cX10_isForce 9 = .ok (.iaload, 1) := by decide +kernel
theorem dX10_isForce_10 : decode cX10_isForce 10 = .ok (.iload_n 2, 1) := by decide +kernel
theorem dX10_isForce_11 : decode cX10_isForce 11 = .ok (.if_icmp .ne 35, 3) := by decide +kernel
theorem dX10_isForce_14 : decode cX10_isForce 14 = .ok (.aload_n 0, 1) := by decide +kernel
theorem dX10_isForce_15 : decode cX10_isForce 15 = .ok (.getfield 9, 3) := by decide +kernel
theorem dX10_isForce_18 : decode cX10_isForce 18 = .ok (.sipush 345, 3) := by decide +kernel
theorem dX10_isForce_21 : decode cX10_isForce 21 = .ok (.iload_n 1, 1) := by decide +kernel
theorem dX10_isForce_22 : decode cX10_isForce 22 = .ok (.iadd, 1) := by decide +kernel
theorem dX10_isForce_23 : decode cX10_isForce 23 = .ok (.iaload, 1) := by decide +kernel
theorem dX10_isForce_24 : decode cX10_isForce 24 = .ok (.iload_n 3, 1) := by decide +kernel
theorem dX10_isForce_25 : decode cX10_isForce 25 = .ok (.if_icmp .gt 21, 3) := by decide +kernel
theorem dX10_isForce_28 : decode cX10_isForce 28 = .ok (.iload_n 3, 1) := by decide +kernel
theorem dX10_isForce_29 : decode cX10_isForce 29 = .ok (.aload_n 0, 1) := by decide +kernel
theorem dX10_isForce_30 : decode cX10_isForce 30 = .ok (.getfield 9, 3) := by decide +kernel
theorem dX10_isForce_33 : decode cX10_isForce 33 = .ok (.sipush 357, 3) := by decide +kernel
theorem dX10_isForce_36 : decode cX10_isForce 36 = .ok (.iload_n 1, 1) := by decide +kernel
theorem dX10_isForce_37 : decode cX10_isForce 37 = .ok (.iadd, 1) := by decide +kernel
theorem dX10_isForce_38 : decode cX10_isForce 38 = .ok (.iaload, 1) := by decide +kernel
theorem dX10_isForce_39 : decode cX10_isForce 39 = .ok (.if_icmp .gt 7, 3) := by decide +kernel
theorem dX10_isForce_42 : decode cX10_isForce 42 = .ok (.iconst 1, 1) := by decide +kernel
theorem dX10_isForce_43 : decode cX10_isForce 43 = .ok (.goto 4, 3) := by decide +kernel
theorem dX10_isForce_46 : decode cX10_isForce 46 = .ok (.iconst 0, 1) := by decide +kernel
theorem dX10_isForce_47 : decode cX10_isForce 47 = .ok (.ireturn, 1) := by decide +kernel
theorem dX10_hasLaw_0 : decode cX10_hasLaw 0 = .ok (.iconst 0, 1) := by decide +kernel
theorem dX10_hasLaw_1 : decode cX10_hasLaw 1 = .ok (.istore 4, 2) := by decide +kernel
theorem dX10_hasLaw_3 : decode cX10_hasLaw 3 = .ok (.iconst 0, 1) := by decide +kernel
theorem dX10_hasLaw_4 : decode cX10_hasLaw 4 = .ok (.istore 5, 2) := by decide +kernel
theorem dX10_hasLaw_6 : decode cX10_hasLaw 6 = .ok (.iload 5, 2) := by decide +kernel
theorem dX10_hasLaw_8 : decode cX10_hasLaw 8 = .ok (.aload_n 0, 1) := by decide +kernel
theorem dX10_hasLaw_9 : decode cX10_hasLaw 9 = .ok (.getfield 9, 3) := by decide +kernel
theorem dX10_hasLaw_12 : decode cX10_hasLaw 12 = .ok (.iconst 3, 1) := by decide +kernel
theorem dX10_hasLaw_13 : decode cX10_hasLaw 13 = .ok (.iaload, 1) := by decide +kernel
theorem dX10_hasLaw_14 : decode cX10_hasLaw 14 = .ok (.if_icmp .ge 47, 3) := by decide +kernel
theorem dX10_hasLaw_17 : decode cX10_hasLaw 17 = .ok (.iload 4, 2) := by decide +kernel
theorem dX10_hasLaw_19 : decode cX10_hasLaw 19 = .ok (.ifCond .ne 29, 3) := by decide +kernel
theorem dX10_hasLaw_22 : decode cX10_hasLaw 22 = .ok (.aload_n 0, 1) := by decide +kernel
theorem dX10_hasLaw_23 : decode cX10_hasLaw 23 = .ok (.iload 5, 2) := by decide +kernel
theorem dX10_hasLaw_25 : decode cX10_hasLaw 25 = .ok (.iload_n 1, 1) := by decide +kernel
theorem dX10_hasLaw_26 : decode cX10_hasLaw 26 = .ok (.iload_n 2, 1) := by decide +kernel
theorem dX10_hasLaw_27 : decode cX10_hasLaw 27 = .ok (.invokevirtual 73, 3) := by decide +kernel
theorem dX10_hasLaw_30 : decode cX10_hasLaw 30 = .ok (.ifCond .eq 22, 3) := by decide +kernel
theorem dX10_hasLaw_33 : decode cX10_hasLaw 33 = .ok (.aload_n 0, 1) := by decide +kernel
theorem dX10_hasLaw_34 : decode cX10_hasLaw 34 = .ok (.getfield 9, 3) := by decide +kernel
theorem dX10_hasLaw_37 : decode cX10_hasLaw 37 = .ok (.sipush 333, 3) := by decide +kernel
theorem dX10_hasLaw_40 : decode cX10_hasLaw 40 = .ok (.iload 5, 2) := by decide +kernel
theorem dX10_hasLaw_42 : decode cX10_hasLaw 42 = .ok (.iadd, 1) := by decide +kernel
theorem dX10_hasLaw_43 : decode cX10_hasLaw 43 = .ok (.iaload, 1) := by decide +kernel
theorem dX10_hasLaw_44 : decode cX10_hasLaw 44 = .ok (.iload_n 3, 1) := by decide +kernel
theorem dX10_hasLaw_45 : decode cX10_hasLaw 45 = .ok (.if_icmp .gt 7, 3) := by decide +kernel
theorem dX10_hasLaw_48 : decode cX10_hasLaw 48 = .ok (.iconst 1, 1) := by decide +kernel
theorem dX10_hasLaw_49 : decode cX10_hasLaw 49 = .ok (.goto 4, 3) := by decide +kernel
theorem dX10_hasLaw_52 : decode cX10_hasLaw 52 = .ok (.iconst 0, 1) := by decide +kernel
theorem dX10_hasLaw_53 : decode cX10_hasLaw 53 = .ok (.istore 4, 2) := by decide +kernel
theorem dX10_hasLaw_55 : decode cX10_hasLaw 55 = .ok (.iinc 5 1, 3) := by decide +kernel
theorem dX10_hasLaw_58 : decode cX10_hasLaw 58 = .ok (.goto (-52), 3) := by decide +kernel
theorem dX10_hasLaw_61 : decode cX10_hasLaw 61 = .ok (.iload 4, 2) := by decide +kernel
theorem dX10_hasLaw_63 : decode cX10_hasLaw 63 = .ok (.ireturn, 1) := by decide +kernel
theorem dX10_ownOf_0 : decode cX10_ownOf 0 = .ok (.iconst (-1), 1) := by decide +kernel
theorem dX10_ownOf_1 : decode cX10_ownOf 1 = .ok (.istore 4, 2) := by decide +kernel
theorem dX10_ownOf_3 : decode cX10_ownOf 3 = .ok (.iconst (-1), 1) := by decide +kernel
theorem dX10_ownOf_4 : decode cX10_ownOf 4 = .ok (.istore 5, 2) := by decide +kernel
theorem dX10_ownOf_6 : decode cX10_ownOf 6 = .ok (.aload_n 0, 1) := by decide +kernel
theorem dX10_ownOf_7 : decode cX10_ownOf 7 = .ok (.getfield 9, 3) := by decide +kernel
theorem dX10_ownOf_10 : decode cX10_ownOf 10 = .ok (.bipush 69, 2) := by decide +kernel
theorem dX10_ownOf_12 : decode cX10_ownOf 12 = .ok (.iload_n 1, 1) := by decide +kernel
theorem dX10_ownOf_13 : decode cX10_ownOf 13 = .ok (.iadd, 1) := by decide +kernel
theorem dX10_ownOf_14 : decode cX10_ownOf 14 = .ok (.iaload, 1) := by decide +kernel
theorem dX10_ownOf_15 : decode cX10_ownOf 15 = .ok (.istore 6, 2) := by decide +kernel
theorem dX10_ownOf_17 : decode cX10_ownOf 17 = .ok (.iload 6, 2) := by decide +kernel
theorem dX10_ownOf_19 : decode cX10_ownOf 19 = .ok (.iload_n 2, 1) := by decide +kernel
theorem dX10_ownOf_20 : decode cX10_ownOf 20 = .ok (.if_icmp .gt 29, 3) := by decide +kernel
theorem dX10_ownOf_23 : decode cX10_ownOf 23 = .ok (.aload_n 0, 1) := by decide +kernel
theorem dX10_ownOf_24 : decode cX10_ownOf 24 = .ok (.iconst 0, 1) := by decide +kernel
theorem dX10_ownOf_25 : decode cX10_ownOf 25 = .ok (.iload 6, 2) := by decide +kernel
theorem dX10_ownOf_27 : decode cX10_ownOf 27 = .ok (.iconst 0, 1) := by decide +kernel
theorem dX10_ownOf_28 : decode cX10_ownOf 28 = .ok (.invokevirtual 76, 3) := by decide +kernel
theorem dX10_ownOf_31 : decode cX10_ownOf 31 = .ok (.ifCond .eq 18, 3) := by decide +kernel
theorem dX10_ownOf_34 : decode cX10_ownOf 34 = .ok (.aload_n 0, 1) := by decide +kernel
theorem dX10_ownOf_35 : decode cX10_ownOf 35 = .ok (.getfield 9, 3) := by decide +kernel
theorem dX10_ownOf_38 : decode cX10_ownOf 38 = .ok (.bipush 59, 2) := by decide +kernel
theorem dX10_ownOf_40 : decode cX10_ownOf 40 = .ok (.iload_n 1, 1) := by decide +kernel
theorem dX10_ownOf_41 : decode cX10_ownOf 41 = .ok (.iadd, 1) := by decide +kernel
theorem dX10_ownOf_42 : decode cX10_ownOf 42 = .ok (.iaload, 1) := by decide +kernel
theorem dX10_ownOf_43 : decode cX10_ownOf 43 = .ok (.istore 4, 2) := by decide +kernel
theorem dX10_ownOf_45 : decode cX10_ownOf 45 = .ok (.iload 6, 2) := by decide +kernel
theorem dX10_ownOf_47 : decode cX10_ownOf 47 = .ok (.istore 5, 2) := by decide +kernel
theorem dX10_ownOf_49 : decode cX10_ownOf 49 = .ok (.iconst 0, 1) := by decide +kernel
theorem dX10_ownOf_50 : decode cX10_ownOf 50 = .ok (.istore 7, 2) := by decide +kernel
theorem dX10_ownOf_52 : decode cX10_ownOf 52 = .ok (.iload 7, 2) := by decide +kernel
theorem dX10_ownOf_54 : decode cX10_ownOf 54 = .ok (.aload_n 0, 1) := by decide +kernel
theorem dX10_ownOf_55 : decode cX10_ownOf 55 = .ok (.getfield 9, 3) := by decide +kernel
theorem dX10_ownOf_58 : decode cX10_ownOf 58 = .ok (.iconst 2, 1) := by decide +kernel
theorem dX10_ownOf_59 : decode cX10_ownOf 59 = .ok (.iaload, 1) := by decide +kernel
theorem dX10_ownOf_60 : decode cX10_ownOf 60 = .ok (.if_icmp .ge 205, 3) := by decide +kernel
theorem dX10_ownOf_63 : decode cX10_ownOf 63 = .ok (.aload_n 0, 1) := by decide +kernel
theorem dX10_ownOf_64 : decode cX10_ownOf 64 = .ok (.getfield 9, 3) := by decide +kernel
theorem dX10_ownOf_67 : decode cX10_ownOf 67 = .ok (.sipush 153, 3) := by decide +kernel
theorem dX10_ownOf_70 : decode cX10_ownOf 70 = .ok (.iload 7, 2) := by decide +kernel
theorem dX10_ownOf_72 : decode cX10_ownOf 72 = .ok (.iadd, 1) := by decide +kernel
theorem dX10_ownOf_73 : decode cX10_ownOf 73 = .ok (.iaload, 1) := by decide +kernel
theorem dX10_ownOf_74 : decode cX10_ownOf 74 = .ok (.iload_n 1, 1) := by decide +kernel
theorem dX10_ownOf_75 : decode cX10_ownOf 75 = .ok (.if_icmp .ne 184, 3) := by decide +kernel
theorem dX10_ownOf_78 : decode cX10_ownOf 78 = .ok (.aload_n 0, 1) := by decide +kernel
theorem dX10_ownOf_79 : decode cX10_ownOf 79 = .ok (.getfield 9, 3) := by decide +kernel
theorem dX10_ownOf_82 : decode cX10_ownOf 82 = .ok (.sipush 273, 3) := by decide +kernel
theorem dX10_ownOf_85 : decode cX10_ownOf 85 = .ok (.iload 7, 2) := by decide +kernel
theorem dX10_ownOf_87 : decode cX10_ownOf 87 = .ok (.iadd, 1) := by decide +kernel
theorem dX10_ownOf_88 : decode cX10_ownOf 88 = .ok (.iaload, 1) := by decide +kernel
theorem dX10_ownOf_89 : decode cX10_ownOf 89 = .ok (.iload_n 3, 1) := by decide +kernel
theorem dX10_ownOf_90 : decode cX10_ownOf 90 = .ok (.if_icmp .gt 169, 3) := by decide +kernel
theorem dX10_ownOf_93 : decode cX10_ownOf 93 = .ok (.aload_n 0, 1) := by decide +kernel
theorem dX10_ownOf_94 : decode cX10_ownOf 94 = .ok (.getfield 79, 3) := by decide +kernel
theorem dX10_ownOf_97 : decode cX10_ownOf 97 = .ok (.iload 7, 2) := by decide +kernel
theorem dX10_ownOf_99 : decode cX10_ownOf 99 = .ok (.ishr, 1) := by decide +kernel
theorem dX10_ownOf_100 : decode cX10_ownOf 100 = .ok (.iconst 1, 1) := by decide +kernel
theorem dX10_ownOf_101 : decode cX10_ownOf 101 = .ok (.iand, 1) := by decide +kernel
theorem dX10_ownOf_102 : decode cX10_ownOf 102 = .ok (.iconst 1, 1) := by decide +kernel
theorem dX10_ownOf_103 : decode cX10_ownOf 103 = .ok (.if_icmp .ne 6, 3) := by decide +kernel
theorem dX10_ownOf_106 : decode cX10_ownOf 106 = .ok (.goto 153, 3) := by decide +kernel
theorem dX10_ownOf_109 : decode cX10_ownOf 109 = .ok (.aload_n 0, 1) := by decide +kernel
theorem dX10_ownOf_110 : decode cX10_ownOf 110 = .ok (.getfield 9, 3) := by decide +kernel
theorem dX10_ownOf_113 : decode cX10_ownOf 113 = .ok (.sipush 129, 3) := by decide +kernel
theorem dX10_ownOf_116 : decode cX10_ownOf 116 = .ok (.iload 7, 2) := by decide +kernel
theorem dX10_ownOf_118 : decode cX10_ownOf 118 = .ok (.iadd, 1) := by decide +kernel
theorem dX10_ownOf_119 : decode cX10_ownOf 119 = .ok (.iaload, 1) := by decide +kernel
theorem dX10_ownOf_120 : decode cX10_ownOf 120 = .ok (.ifCond .ne 7, 3) := by decide +kernel
theorem dX10_ownOf_123 : decode cX10_ownOf 123 = .ok (.iconst 1, 1) := by decide +kernel
theorem dX10_ownOf_124 : decode cX10_ownOf 124 = .ok (.goto 4, 3) := by decide +kernel
theorem dX10_ownOf_127 : decode cX10_ownOf 127 = .ok (.iconst 0, 1) := by decide +kernel
theorem dX10_ownOf_128 : decode cX10_ownOf 128 = .ok (.istore 8, 2) := by decide +kernel
theorem dX10_ownOf_130 : decode cX10_ownOf 130 = .ok (.iload 8, 2) := by decide +kernel
theorem dX10_ownOf_132 : decode cX10_ownOf 132 = .ok (.ifCond .eq 17, 3) := by decide +kernel
theorem dX10_ownOf_135 : decode cX10_ownOf 135 = .ok (.aload_n 0, 1) := by decide +kernel
theorem dX10_ownOf_136 : decode cX10_ownOf 136 = .ok (.getfield 9, 3) := by decide +kernel
theorem dX10_ownOf_139 : decode cX10_ownOf 139 = .ok (.sipush 249, 3) := by decide +kernel
theorem dX10_ownOf_142 : decode cX10_ownOf 142 = .ok (.iload 7, 2) := by decide +kernel
theorem dX10_ownOf_144 : decode cX10_ownOf 144 = .ok (.iadd, 1) := by decide +kernel
theorem dX10_ownOf_145 : decode cX10_ownOf 145 = .ok (.iaload, 1) := by decide +kernel
theorem dX10_ownOf_146 : decode cX10_ownOf 146 = .ok (.goto 14, 3) := by decide +kernel
theorem dX10_ownOf_149 : decode cX10_ownOf 149 = .ok (.aload_n 0, 1) := by decide +kernel
theorem dX10_ownOf_150 : decode cX10_ownOf 150 = .ok (.getfield 9, 3) := by decide +kernel
theorem dX10_ownOf_153 : decode cX10_ownOf 153 = .ok (.sipush 225, 3) := by decide +kernel
theorem dX10_ownOf_156 : decode cX10_ownOf 156 = .ok (.iload 7, 2) := by decide +kernel
theorem dX10_ownOf_158 : decode cX10_ownOf 158 = .ok (.iadd, 1) := by decide +kernel
theorem dX10_ownOf_159 : decode cX10_ownOf 159 = .ok (.iaload, 1) := by decide +kernel
theorem dX10_ownOf_160 : decode cX10_ownOf 160 = .ok (.istore 9, 2) := by decide +kernel
theorem dX10_ownOf_162 : decode cX10_ownOf 162 = .ok (.iload 8, 2) := by decide +kernel
theorem dX10_ownOf_164 : decode cX10_ownOf 164 = .ok (.ifCond .eq 31, 3) := by decide +kernel
theorem dX10_ownOf_167 : decode cX10_ownOf 167 = .ok (.aload_n 0, 1) := by decide +kernel
theorem dX10_ownOf_168 : decode cX10_ownOf 168 = .ok (.getfield 9, 3) := by decide +kernel
theorem dX10_ownOf_171 : decode cX10_ownOf 171 = .ok (.sipush 249, 3) := by decide +kernel
theorem dX10_ownOf_174 : decode cX10_ownOf 174 = .ok (.iload 7, 2) := by decide +kernel
theorem dX10_ownOf_176 : decode cX10_ownOf 176 = .ok (.iadd, 1) := by decide +kernel
theorem dX10_ownOf_177 : decode cX10_ownOf 177 = .ok (.iaload, 1) := by decide +kernel
theorem dX10_ownOf_178 : decode cX10_ownOf 178 = .ok (.aload_n 0, 1) := by decide +kernel
theorem dX10_ownOf_179 : decode cX10_ownOf 179 = .ok (.getfield 9, 3) := by decide +kernel
theorem dX10_ownOf_182 : decode cX10_ownOf 182 = .ok (.sipush 225, 3) := by decide +kernel
theorem dX10_ownOf_185 : decode cX10_ownOf 185 = .ok (.iload 7, 2) := by decide +kernel
theorem dX10_ownOf_187 : decode cX10_ownOf 187 = .ok (.iadd, 1) := by decide +kernel
theorem dX10_ownOf_188 : decode cX10_ownOf 188 = .ok (.iaload, 1) := by decide +kernel
theorem dX10_ownOf_189 : decode cX10_ownOf 189 = .ok (.isub, 1) := by decide +kernel
theorem dX10_ownOf_190 : decode cX10_ownOf 190 = .ok (.iconst 1, 1) := by decide +kernel
theorem dX10_ownOf_191 : decode cX10_ownOf 191 = .ok (.iadd, 1) := by decide +kernel
theorem dX10_ownOf_192 : decode cX10_ownOf 192 = .ok (.goto 14, 3) := by decide +kernel
theorem dX10_ownOf_195 : decode cX10_ownOf 195 = .ok (.aload_n 0, 1) := by decide +kernel
theorem dX10_ownOf_196 : decode cX10_ownOf 196 = .ok (.getfield 9, 3) := by decide +kernel
theorem dX10_ownOf_199 : decode cX10_ownOf 199 = .ok (.sipush 201, 3) := by decide +kernel
theorem dX10_ownOf_202 : decode cX10_ownOf 202 = .ok (.iload 7, 2) := by decide +kernel
theorem dX10_ownOf_204 : decode cX10_ownOf 204 = .ok (.iadd, 1) := by decide +kernel
theorem dX10_ownOf_205 : decode cX10_ownOf 205 = .ok (.iaload, 1) := by decide +kernel
theorem dX10_ownOf_206 : decode cX10_ownOf 206 = .ok (.istore 10, 2) := by decide +kernel
theorem dX10_ownOf_208 : decode cX10_ownOf 208 = .ok (.iload 9, 2) := by decide +kernel
theorem dX10_ownOf_210 : decode cX10_ownOf 210 = .ok (.iload_n 2, 1) := by decide +kernel
theorem dX10_ownOf_211 : decode cX10_ownOf 211 = .ok (.if_icmp .gt 48, 3) := by decide +kernel
theorem dX10_ownOf_214 : decode cX10_ownOf 214 = .ok (.iload 9, 2) := by decide +kernel
theorem dX10_ownOf_216 : decode cX10_ownOf 216 = .ok (.iload 5, 2) := by decide +kernel
theorem dX10_ownOf_218 : decode cX10_ownOf 218 = .ok (.if_icmp .lt 41, 3) := by decide +kernel
theorem dX10_ownOf_221 : decode cX10_ownOf 221 = .ok (.aload_n 0, 1) := by decide +kernel
theorem dX10_ownOf_222 : decode cX10_ownOf 222 = .ok (.iload 8, 2) := by decide +kernel
theorem dX10_ownOf_224 : decode cX10_ownOf 224 = .ok (.ifCond .eq 7, 3) := by decide +kernel
theorem dX10_ownOf_227 : decode cX10_ownOf 227 = .ok (.iconst 1, 1) := by decide +kernel
theorem dX10_ownOf_228 : decode cX10_ownOf 228 = .ok (.goto 4, 3) := by decide +kernel
theorem dX10_ownOf_231 : decode cX10_ownOf 231 = .ok (.iconst 2, 1) := by decide +kernel
theorem dX10_ownOf_232 : decode cX10_ownOf 232 = .ok (.iload 9, 2) := by decide +kernel
theorem dX10_ownOf_234 : decode cX10_ownOf 234 = .ok (.iload 10, 2) := by decide +kernel
theorem dX10_ownOf_236 : decode cX10_ownOf 236 = .ok (.invokevirtual 76, 3) := by decide +kernel
theorem dX10_ownOf_239 : decode cX10_ownOf 239 = .ok (.ifCond .eq 20, 3) := by decide +kernel
theorem dX10_ownOf_242 : decode cX10_ownOf 242 = .ok (.aload_n 0, 1) := by decide +kernel
theorem dX10_ownOf_243 : decode cX10_ownOf 243 = .ok (.getfield 9, 3) := by decide +kernel
theorem dX10_ownOf_246 : decode cX10_ownOf 246 = .ok (.sipush 177, 3) := by decide +kernel
theorem dX10_ownOf_249 : decode cX10_ownOf 249 = .ok (.iload 7, 2) := by decide +kernel
theorem dX10_ownOf_251 : decode cX10_ownOf 251 = .ok (.iadd, 1) := by decide +kernel
theorem dX10_ownOf_252 : decode cX10_ownOf 252 = .ok (.iaload, 1) := by decide +kernel
theorem dX10_ownOf_253 : decode cX10_ownOf 253 = .ok (.istore 4, 2) := by decide +kernel
theorem dX10_ownOf_255 : decode cX10_ownOf 255 = .ok (.iload 9, 2) := by decide +kernel
theorem dX10_ownOf_257 : decode cX10_ownOf 257 = .ok (.istore 5, 2) := by decide +kernel
theorem dX10_ownOf_259 : decode cX10_ownOf 259 = .ok (.iinc 7 1, 3) := by decide +kernel
theorem dX10_ownOf_262 : decode cX10_ownOf 262 = .ok (.goto (-210), 3) := by decide +kernel
theorem dX10_ownOf_265 : decode cX10_ownOf 265 = .ok (.iload 4, 2) := by decide +kernel
theorem dX10_ownOf_267 : decode cX10_ownOf 267 = .ok (.ireturn, 1) := by decide +kernel
theorem dX10_goesBy_0 : decode cX10_goesBy 0 = .ok (.aload_n 0, 1) := by decide +kernel
theorem dX10_goesBy_1 : decode cX10_goesBy 1 = .ok (.getfield 9, 3) := by decide +kernel
theorem dX10_goesBy_4 : decode cX10_goesBy 4 = .ok (.bipush 79, 2) := by decide +kernel
theorem dX10_goesBy_6 : decode cX10_goesBy 6 = .ok (.iload_n 1, 1) := by decide +kernel
theorem dX10_goesBy_7 : decode cX10_goesBy 7 = .ok (.iadd, 1) := by decide +kernel
theorem dX10_goesBy_8 : decode cX10_goesBy 8 = .ok (.iaload, 1) := by decide +kernel
theorem dX10_goesBy_9 : decode cX10_goesBy 9 = .ok (.ifCond .ge 5, 3) := by decide +kernel
theorem dX10_goesBy_12 : decode cX10_goesBy 12 = .ok (.iconst 0, 1) := by decide +kernel
theorem dX10_goesBy_13 : decode cX10_goesBy 13 = .ok (.ireturn, 1) := by decide +kernel
theorem dX10_goesBy_14 : decode cX10_goesBy 14 = .ok (.aload_n 0, 1) := by decide +kernel
theorem dX10_goesBy_15 : decode cX10_goesBy 15 = .ok (.getfield 9, 3) := by decide +kernel
theorem dX10_goesBy_18 : decode cX10_goesBy 18 = .ok (.bipush 49, 2) := by decide +kernel
theorem dX10_goesBy_20 : decode cX10_goesBy 20 = .ok (.iload_n 1, 1) := by decide +kernel
theorem dX10_goesBy_21 : decode cX10_goesBy 21 = .ok (.iadd, 1) := by decide +kernel
theorem dX10_goesBy_22 : decode cX10_goesBy 22 = .ok (.iaload, 1) := by decide +kernel
theorem dX10_goesBy_23 : decode cX10_goesBy 23 = .ok (.iconst 1, 1) := by decide +kernel
theorem dX10_goesBy_24 : decode cX10_goesBy 24 = .ok (.if_icmp .ne 34, 3) := by decide +kernel
theorem dX10_goesBy_27 : decode cX10_goesBy 27 = .ok (.aload_n 0, 1) := by decide +kernel
theorem dX10_goesBy_28 : decode cX10_goesBy 28 = .ok (.getfield 9, 3) := by decide +kernel
theorem dX10_goesBy_31 : decode cX10_goesBy 31 = .ok (.bipush 89, 2) := by decide +kernel
theorem dX10_goesBy_33 : decode cX10_goesBy 33 = .ok (.iload_n 1, 1) := by decide +kernel
theorem dX10_goesBy_34 : decode cX10_goesBy 34 = .ok (.iadd, 1) := by decide +kernel
theorem dX10_goesBy_35 : decode cX10_goesBy 35 = .ok (.iaload, 1) := by decide +kernel
theorem dX10_goesBy_36 : decode cX10_goesBy 36 = .ok (.istore_n 3, 1) := by decide +kernel
theorem dX10_goesBy_37 : decode cX10_goesBy 37 = .ok (.iload_n 3, 1) := by decide +kernel
theorem dX10_goesBy_38 : decode cX10_goesBy 38 = .ok (.iload_n 2, 1) := by decide +kernel
theorem dX10_goesBy_39 : decode cX10_goesBy 39 = .ok (.if_icmp .gt 17, 3) := by decide +kernel
theorem dX10_goesBy_42 : decode cX10_goesBy 42 = .ok (.aload_n 0, 1) := by decide +kernel
theorem dX10_goesBy_43 : decode cX10_goesBy 43 = .ok (.iconst 3, 1) := by decide +kernel
theorem dX10_goesBy_44 : decode cX10_goesBy 44 = .ok (.iload_n 3, 1) := by decide +kernel
theorem dX10_goesBy_45 : decode cX10_goesBy 45 = .ok (.iconst 0, 1) := by decide +kernel
theorem dX10_goesBy_46 : decode cX10_goesBy 46 = .ok (.invokevirtual 76, 3) := by decide +kernel
theorem dX10_goesBy_49 : decode cX10_goesBy 49 = .ok (.ifCond .eq 7, 3) := by decide +kernel
theorem dX10_goesBy_52 : decode cX10_goesBy 52 = .ok (.iconst 1, 1) := by decide +kernel
theorem dX10_goesBy_53 : decode cX10_goesBy 53 = .ok (.goto 4, 3) := by decide +kernel
theorem dX10_goesBy_56 : decode cX10_goesBy 56 = .ok (.iconst 0, 1) := by decide +kernel
theorem dX10_goesBy_57 : decode cX10_goesBy 57 = .ok (.ireturn, 1) := by decide +kernel
theorem dX10_goesBy_58 : decode cX10_goesBy 58 = .ok (.aload_n 0, 1) := by decide +kernel
theorem dX10_goesBy_59 : decode cX10_goesBy 59 = .ok (.getfield 9, 3) := by decide +kernel
theorem dX10_goesBy_62 : decode cX10_goesBy 62 = .ok (.bipush 69, 2) := by decide +kernel
theorem dX10_goesBy_64 : decode cX10_goesBy 64 = .ok (.iload_n 1, 1) := by decide +kernel
theorem dX10_goesBy_65 : decode cX10_goesBy 65 = .ok (.iadd, 1) := by decide +kernel
theorem dX10_goesBy_66 : decode cX10_goesBy 66 = .ok (.iaload, 1) := by decide +kernel
theorem dX10_goesBy_67 : decode cX10_goesBy 67 = .ok (.istore_n 3, 1) := by decide +kernel
theorem dX10_goesBy_68 : decode cX10_goesBy 68 = .ok (.iconst 0, 1) := by decide +kernel
theorem dX10_goesBy_69 : decode cX10_goesBy 69 = .ok (.istore 4, 2) := by decide +kernel
theorem dX10_goesBy_71 : decode cX10_goesBy 71 = .ok (.iconst 0, 1) := by decide +kernel
theorem dX10_goesBy_72 : decode cX10_goesBy 72 = .ok (.istore 5, 2) := by decide +kernel
theorem dX10_goesBy_74 : decode cX10_goesBy 74 = .ok (.iload 5, 2) := by decide +kernel
theorem dX10_goesBy_76 : decode cX10_goesBy 76 = .ok (.aload_n 0, 1) := by decide +kernel
theorem dX10_goesBy_77 : decode cX10_goesBy 77 = .ok (.getfield 9, 3) := by decide +kernel
theorem dX10_goesBy_80 : decode cX10_goesBy 80 = .ok (.iconst 3, 1) := by decide +kernel
theorem dX10_goesBy_81 : decode cX10_goesBy 81 = .ok (.iaload, 1) := by decide +kernel
theorem dX10_goesBy_82 : decode cX10_goesBy 82 = .ok (.if_icmp .ge 49, 3) := by decide +kernel
theorem dX10_goesBy_85 : decode cX10_goesBy 85 = .ok (.iload 4, 2) := by decide +kernel
theorem dX10_goesBy_87 : decode cX10_goesBy 87 = .ok (.ifCond .ne 31, 3) := by decide +kernel
theorem dX10_goesBy_90 : decode cX10_goesBy 90 = .ok (.aload_n 0, 1) := by decide +kernel
theorem dX10_goesBy_91 : decode cX10_goesBy 91 = .ok (.iload 5, 2) := by decide +kernel
theorem dX10_goesBy_93 : decode cX10_goesBy 93 = .ok (.iconst 4, 1) := by decide +kernel
theorem dX10_goesBy_94 : decode cX10_goesBy 94 = .ok (.iload_n 3, 1) := by decide +kernel
theorem dX10_goesBy_95 : decode cX10_goesBy 95 = .ok (.invokevirtual 73, 3) := by decide +kernel
theorem dX10_goesBy_98 : decode cX10_goesBy 98 = .ok (.ifCond .eq 24, 3) := by decide +kernel
theorem dX10_goesBy_101 : decode cX10_goesBy 101 = .ok (.iload_n 2, 1) := by decide +kernel
theorem dX10_goesBy_102 : decode cX10_goesBy 102 = .ok (.iload_n 3, 1) := by decide +kernel
theorem dX10_goesBy_103 : decode cX10_goesBy 103 = .ok (.isub, 1) := by decide +kernel
theorem dX10_goesBy_104 : decode cX10_goesBy 104 = .ok (.aload_n 0, 1) := by decide +kernel
theorem dX10_goesBy_105 : decode cX10_goesBy 105 = .ok (.getfield 9, 3) := by decide +kernel
theorem dX10_goesBy_108 : decode cX10_goesBy 108 = .ok (.sipush 333, 3) := by decide +kernel
theorem dX10_goesBy_111 : decode cX10_goesBy 111 = .ok (.iload 5, 2) := by decide +kernel
theorem dX10_goesBy_113 : decode cX10_goesBy 113 = .ok (.iadd, 1) := by decide +kernel
theorem dX10_goesBy_114 : decode cX10_goesBy 114 = .ok (.iaload, 1) := by decide +kernel
theorem dX10_goesBy_115 : decode cX10_goesBy 115 = .ok (.if_icmp .ge 7, 3) := by decide +kernel
theorem dX10_goesBy_118 : decode cX10_goesBy 118 = .ok (.iconst 1, 1) := by decide +kernel
theorem dX10_goesBy_119 : decode cX10_goesBy 119 = .ok (.goto 4, 3) := by decide +kernel
theorem dX10_goesBy_122 : decode cX10_goesBy 122 = .ok (.iconst 0, 1) := by decide +kernel
theorem dX10_goesBy_123 : decode cX10_goesBy 123 = .ok (.istore 4, 2) := by decide +kernel
theorem dX10_goesBy_125 : decode cX10_goesBy 125 = .ok (.iinc 5 1, 3) := by decide +kernel
theorem dX10_goesBy_128 : decode cX10_goesBy 128 = .ok (.goto (-54), 3) := by decide +kernel
theorem dX10_goesBy_131 : decode cX10_goesBy 131 = .ok (.iload_n 2, 1) := by decide +kernel
theorem dX10_goesBy_132 : decode cX10_goesBy 132 = .ok (.iload_n 3, 1) := by decide +kernel
theorem dX10_goesBy_133 : decode cX10_goesBy 133 = .ok (.if_icmp .lt 12, 3) := by decide +kernel
theorem dX10_goesBy_136 : decode cX10_goesBy 136 = .ok (.iload 4, 2) := by decide +kernel
theorem dX10_goesBy_138 : decode cX10_goesBy 138 = .ok (.ifCond .eq 7, 3) := by decide +kernel
theorem dX10_goesBy_141 : decode cX10_goesBy 141 = .ok (.iconst 1, 1) := by decide +kernel
theorem dX10_goesBy_142 : decode cX10_goesBy 142 = .ok (.goto 4, 3) := by decide +kernel
theorem dX10_goesBy_145 : decode cX10_goesBy 145 = .ok (.iconst 0, 1) := by decide +kernel
theorem dX10_goesBy_146 : decode cX10_goesBy 146 = .ok (.ireturn, 1) := by decide +kernel
theorem dX10_settlementOf_0 : decode cX10_settlementOf 0 = .ok (.iconst 1, 1) := by decide +kernel
theorem dX10_settlementOf_1 : decode cX10_settlementOf 1 = .ok (.istore 4, 2) := by decide +kernel
theorem dX10_settlementOf_3 : decode cX10_settlementOf 3 = .ok (.aload_n 0, 1) := by decide +kernel
theorem dX10_settlementOf_4 : decode cX10_settlementOf 4 = .ok (.getfield 25, 3) := by decide +kernel
theorem dX10_settlementOf_7 : decode cX10_settlementOf 7 = .ok (.iconst 0, 1) := by decide +kernel
theorem dX10_settlementOf_8 : decode cX10_settlementOf 8 = .ok (.iload_n 1, 1) := by decide +kernel
theorem dX10_settlementOf_9 : decode cX10_settlementOf 9 = .ok (.iastore, 1) := by decide +kernel
theorem dX10_settlementOf_10 : decode cX10_settlementOf 10 = .ok (.aload_n 0, 1) := by decide +kernel
theorem dX10_settlementOf_11 : decode cX10_settlementOf 11 = .ok (.aload_n 0, 1) := by decide +kernel
theorem dX10_settlementOf_12 : decode cX10_settlementOf 12 = .ok (.getfield 25, 3) := by decide +kernel
theorem dX10_settlementOf_15 : decode cX10_settlementOf 15 = .ok (.iload 4, 2) := by decide +kernel
theorem dX10_settlementOf_17 : decode cX10_settlementOf 17 = .ok (.iconst 1, 1) := by decide +kernel
theorem dX10_settlementOf_18 : decode cX10_settlementOf 18 = .ok (.isub, 1) := by decide +kernel
theorem dX10_settlementOf_19 : decode cX10_settlementOf 19 = .ok (.iaload, 1) := by decide +kernel
theorem dX10_settlementOf_20 : decode cX10_settlementOf 20 = .ok (.iload_n 2, 1) := by decide +kernel
theorem dX10_settlementOf_21 : decode cX10_settlementOf 21 = .ok (.invokevirtual 82, 3) := by decide +kernel
theorem dX10_settlementOf_24 : decode cX10_settlementOf 24 = .ok (.ifCond .eq 33, 3) := by decide +kernel
theorem dX10_settlementOf_27 : decode cX10_settlementOf 27 = .ok (.aload_n 0, 1) := by decide +kernel
theorem dX10_settlementOf_28 : decode cX10_settlementOf 28 = .ok (.getfield 25, 3) := by decide +kernel
theorem dX10_settlementOf_31 : decode cX10_settlementOf 31 = .ok (.iload 4, 2) := by decide +kernel
theorem dX10_settlementOf_33 : decode cX10_settlementOf 33 = .ok (.aload_n 0, 1) := by decide +kernel
theorem dX10_settlementOf_34 : decode cX10_settlementOf 34 = .ok (.getfield 9, 3) := by decide +kernel
theorem dX10_settlementOf_37 : decode cX10_settlementOf 37 = .ok (.bipush 79, 2) := by decide +kernel
theorem dX10_settlementOf_39 : decode cX10_settlementOf 39 = .ok (.aload_n 0, 1) := by decide +kernel
theorem dX10_settlementOf_40 : decode cX10_settlementOf 40 = .ok (.getfield 25, 3) := by decide +kernel
theorem dX10_settlementOf_43 : decode cX10_settlementOf 43 = .ok (.iload 4, 2) := by decide +kernel
theorem dX10_settlementOf_45 : decode cX10_settlementOf 45 = .ok (.iconst 1, 1) := by decide +kernel
theorem dX10_settlementOf_46 : decode cX10_settlementOf 46 = .ok (.isub, 1) := by decide +kernel
theorem dX10_settlementOf_47 : decode cX10_settlementOf 47 = .ok (.iaload, 1) := by decide +kernel
theorem dX10_settlementOf_48 : decode cX10_settlementOf 48 = .ok (.iadd, 1) := by decide +kernel
theorem dX10_settlementOf_49 : decode cX10_settlementOf 49 = .ok (.iaload, 1) := by decide +kernel
theorem dX10_settlementOf_50 : decode cX10_settlementOf 50 = .ok (.iastore, 1) := by decide +kernel
theorem dX10_settlementOf_51 : decode cX10_settlementOf 51 = .ok (.iinc 4 1, 3) := by decide +kernel
theorem dX10_settlementOf_54 : decode cX10_settlementOf 54 = .ok (.goto (-44), 3) := by decide +kernel
theorem dX10_settlementOf_57 : decode cX10_settlementOf 57 = .ok (.iconst (-1), 1) := by decide +kernel
theorem dX10_settlementOf_58 : decode cX10_settlementOf 58 = .ok (.istore 5, 2) := by decide +kernel
theorem dX10_settlementOf_60 : decode cX10_settlementOf 60 = .ok (.aload_n 0, 1) := by decide +kernel
theorem dX10_settlementOf_61 : decode cX10_settlementOf 61 = .ok (.iload_n 1, 1) := by decide +kernel
theorem dX10_settlementOf_62 : decode cX10_settlementOf 62 = .ok (.putfield 86, 3) := by decide +kernel
theorem dX10_settlementOf_65 : decode cX10_settlementOf 65 = .ok (.iload 4, 2) := by decide +kernel
theorem dX10_settlementOf_67 : decode cX10_settlementOf 67 = .ok (.iconst 1, 1) := by decide +kernel
theorem dX10_settlementOf_68 : decode cX10_settlementOf 68 = .ok (.isub, 1) := by decide +kernel
theorem dX10_settlementOf_69 : decode cX10_settlementOf 69 = .ok (.istore 6, 2) := by decide +kernel
theorem dX10_settlementOf_71 : decode cX10_settlementOf 71 = .ok (.iload 6, 2) := by decide +kernel
theorem dX10_settlementOf_73 : decode cX10_settlementOf 73 = .ok (.ifCond .lt 49, 3) := by decide +kernel
theorem dX10_settlementOf_76 : decode cX10_settlementOf 76 = .ok (.iload 5, 2) := by decide +kernel
theorem dX10_settlementOf_78 : decode cX10_settlementOf 78 = .ok (.ifCond .ge 44, 3) := by decide +kernel
theorem dX10_settlementOf_81 : decode cX10_settlementOf 81 = .ok (.aload_n 0, 1) := by decide +kernel
theorem dX10_settlementOf_82 : decode cX10_settlementOf 82 = .ok (.aload_n 0, 1) := by decide +kernel
theorem dX10_settlementOf_83 : decode cX10_settlementOf 83 = .ok (.getfield 25, 3) := by decide +kernel
theorem dX10_settlementOf_86 : decode cX10_settlementOf 86 = .ok (.iload 6, 2) := by decide +kernel
theorem dX10_settlementOf_88 : decode cX10_settlementOf 88 = .ok (.iaload, 1) := by decide +kernel
theorem dX10_settlementOf_89 : decode cX10_settlementOf 89 = .ok (.iload_n 2, 1) := by decide +kernel
theorem dX10_settlementOf_90 : decode cX10_settlementOf 90 = .ok (.iload_n 3, 1) := by decide +kernel
theorem dX10_settlementOf_91 : decode cX10_settlementOf 91 = .ok (.invokevirtual 89, 3) := by decide +kernel
theorem dX10_settlementOf_94 : decode cX10_settlementOf 94 = .ok (.istore 5, 2) := by decide +kernel
theorem dX10_settlementOf_96 : decode cX10_settlementOf 96 = .ok (.aload_n 0, 1) := by decide +kernel
theorem dX10_settlementOf_97 : decode cX10_settlementOf 97 = .ok (.iload 5, 2) := by decide +kernel
theorem dX10_settlementOf_99 : decode cX10_settlementOf 99 = .ok (.ifCond .ge 7, 3) := by decide +kernel
theorem dX10_settlementOf_102 : decode cX10_settlementOf 102 = .ok (.iload_n 1, 1) := by decide +kernel
theorem dX10_settlementOf_103 : decode cX10_settlementOf 103 = .ok (.goto 10, 3) := by decide +kernel
theorem dX10_settlementOf_106 : decode cX10_settlementOf 106 = .ok (.aload_n 0, 1) := by decide +kernel
theorem dX10_settlementOf_107 : decode cX10_settlementOf 107 = .ok (.getfield 25, 3) := by decide +kernel
theorem dX10_settlementOf_110 : decode cX10_settlementOf 110 = .ok (.iload 6, 2) := by decide +kernel
theorem dX10_settlementOf_112 : decode cX10_settlementOf 112 = .ok (.iaload, 1) := by decide +kernel
theorem dX10_settlementOf_113 : decode cX10_settlementOf 113 = .ok (.putfield 86, 3) := by decide +kernel
theorem dX10_settlementOf_116 : decode cX10_settlementOf 116 = .ok (.iinc 6 (-1), 3) := by decide +kernel
theorem dX10_settlementOf_119 : decode cX10_settlementOf 119 = .ok (.goto (-48), 3) := by decide +kernel
theorem dX10_settlementOf_122 : decode cX10_settlementOf 122 = .ok (.iload 5, 2) := by decide +kernel
theorem dX10_settlementOf_124 : decode cX10_settlementOf 124 = .ok (.ireturn, 1) := by decide +kernel
theorem dX10_canAsk_0 : decode cX10_canAsk 0 = .ok (.aload_n 0, 1) := by decide +kernel
theorem dX10_canAsk_1 : decode cX10_canAsk 1 = .ok (.iload_n 1, 1) := by decide +kernel
theorem dX10_canAsk_2 : decode cX10_canAsk 2 = .ok (.invokevirtual 59, 3) := by decide +kernel
theorem dX10_canAsk_5 : decode cX10_canAsk 5 = .ok (.ifCond .eq 21, 3) := by decide +kernel
theorem dX10_canAsk_8 : decode cX10_canAsk 8 = .ok (.iload_n 2, 1) := by decide +kernel
theorem dX10_canAsk_9 : decode cX10_canAsk 9 = .ok (.invokestatic 56, 3) := by decide +kernel
theorem dX10_canAsk_12 : decode cX10_canAsk 12 = .ok (.ifCond .eq 14, 3) := by decide +kernel
theorem dX10_canAsk_15 : decode cX10_canAsk 15 = .ok (.iload_n 3, 1) := by decide +kernel
theorem dX10_canAsk_16 : decode cX10_canAsk 16 = .ok (.invokestatic 56, 3) := by decide +kernel
theorem dX10_canAsk_19 : decode cX10_canAsk 19 = .ok (.ifCond .eq 7, 3) := by decide +kernel
theorem dX10_canAsk_22 : decode cX10_canAsk 22 = .ok (.iconst 1, 1) := by decide +kernel
theorem dX10_canAsk_23 : decode cX10_canAsk 23 = .ok (.goto 4, 3) := by decide +kernel
theorem dX10_canAsk_26 : decode cX10_canAsk 26 = .ok (.iconst 0, 1) := by decide +kernel
theorem dX10_canAsk_27 : decode cX10_canAsk 27 = .ok (.ireturn, 1) := by decide +kernel
theorem dX10_own_0 : decode cX10_own 0 = .ok (.aload_n 0, 1) := by decide +kernel
theorem dX10_own_1 : decode cX10_own 1 = .ok (.iload_n 1, 1) := by decide +kernel
theorem dX10_own_2 : decode cX10_own 2 = .ok (.iload_n 2, 1) := by decide +kernel
theorem dX10_own_3 : decode cX10_own 3 = .ok (.iload_n 3, 1) := by decide +kernel
theorem dX10_own_4 : decode cX10_own 4 = .ok (.invokevirtual 92, 3) := by decide +kernel
theorem dX10_own_7 : decode cX10_own 7 = .ok (.ifCond .ne 10, 3) := by decide +kernel
theorem dX10_own_10 : decode cX10_own 10 = .ok (.aload_n 0, 1) := by decide +kernel
theorem dX10_own_11 : decode cX10_own 11 = .ok (.ldc 45, 2) := by decide +kernel
theorem dX10_own_13 : decode cX10_own 13 = .ok (.invokevirtual 46, 3) := by decide +kernel
theorem dX10_own_16 : decode cX10_own 16 = .ok (.ireturn, 1) := by decide +kernel
theorem dX10_own_17 : decode cX10_own 17 = .ok (.aload_n 0, 1) := by decide +kernel
theorem dX10_own_18 : decode cX10_own 18 = .ok (.iconst 0, 1) := by decide +kernel
theorem dX10_own_19 : decode cX10_own 19 = .ok (.putfield 79, 3) := by decide +kernel
theorem dX10_own_22 : decode cX10_own 22 = .ok (.aload_n 0, 1) := by decide +kernel
theorem dX10_own_23 : decode cX10_own 23 = .ok (.iload_n 1, 1) := by decide +kernel
theorem dX10_own_24 : decode cX10_own 24 = .ok (.iload_n 2, 1) := by decide +kernel
theorem dX10_own_25 : decode cX10_own 25 = .ok (.iload_n 3, 1) := by decide +kernel
theorem dX10_own_26 : decode cX10_own 26 = .ok (.invokevirtual 89, 3) := by decide +kernel
theorem dX10_own_29 : decode cX10_own 29 = .ok (.istore 4, 2) := by decide +kernel
theorem dX10_own_31 : decode cX10_own 31 = .ok (.iload 4, 2) := by decide +kernel
theorem dX10_own_33 : decode cX10_own 33 = .ok (.ifCond .ge 12, 3) := by decide +kernel
theorem dX10_own_36 : decode cX10_own 36 = .ok (.aload_n 0, 1) := by decide +kernel
theorem dX10_own_37 : decode cX10_own 37 = .ok (.ldc 72, 2) := by decide +kernel
theorem dX10_own_39 : decode cX10_own 39 = .ok (.invokevirtual 46, 3) := by decide +kernel
theorem dX10_own_42 : decode cX10_own 42 = .ok (.goto 5, 3) := by decide +kernel
theorem dX10_own_45 : decode cX10_own 45 = .ok (.iload 4, 2) := by decide +kernel
theorem dX10_own_47 : decode cX10_own 47 = .ok (.ireturn, 1) := by decide +kernel
theorem dX10_settlement_0 : decode cX10_settlement 0 = .ok (.aload_n 0, 1) := by decide +kernel
theorem dX10_settlement_1 : decode cX10_settlement 1 = .ok (.iload_n 1, 1) := by decide +kernel
theorem dX10_settlement_2 : decode cX10_settlement 2 = .ok (.iload_n 2, 1) := by decide +kernel
theorem dX10_settlement_3 : decode cX10_settlement 3 = .ok (.iload_n 3, 1) := by decide +kernel
theorem dX10_settlement_4 : decode cX10_settlement 4 = .ok (.invokevirtual 92, 3) := by decide +kernel
theorem dX10_settlement_7 : decode cX10_settlement 7 = .ok (.ifCond .ne 10, 3) := by decide +kernel
theorem dX10_settlement_10 : decode cX10_settlement 10 = .ok (.aload_n 0, 1) := by decide +kernel
theorem dX10_settlement_11 : decode cX10_settlement 11 = .ok (.ldc 45, 2) := by decide +kernel
theorem dX10_settlement_13 : decode cX10_settlement 13 = .ok (.invokevirtual 46, 3) := by decide +kernel
theorem dX10_settlement_16 : decode cX10_settlement 16 = .ok (.ireturn, 1) := by decide +kernel
theorem dX10_settlement_17 : decode cX10_settlement 17 = .ok (.aload_n 0, 1) := by decide +kernel
theorem dX10_settlement_18 : decode cX10_settlement 18 = .ok (.iconst 0, 1) := by decide +kernel
theorem dX10_settlement_19 : decode cX10_settlement 19 = .ok (.putfield 79, 3) := by decide +kernel
theorem dX10_settlement_22 : decode cX10_settlement 22 = .ok (.aload_n 0, 1) := by decide +kernel
theorem dX10_settlement_23 : decode cX10_settlement 23 = .ok (.iload_n 1, 1) := by decide +kernel
theorem dX10_settlement_24 : decode cX10_settlement 24 = .ok (.iload_n 2, 1) := by decide +kernel
theorem dX10_settlement_25 : decode cX10_settlement 25 = .ok (.iload_n 3, 1) := by decide +kernel
theorem dX10_settlement_26 : decode cX10_settlement 26 = .ok (.invokevirtual 95, 3) := by decide +kernel
theorem dX10_settlement_29 : decode cX10_settlement 29 = .ok (.istore 4, 2) := by decide +kernel
theorem dX10_settlement_31 : decode cX10_settlement 31 = .ok (.iload 4, 2) := by decide +kernel
theorem dX10_settlement_33 : decode cX10_settlement 33 = .ok (.ifCond .ge 12, 3) := by decide +kernel
theorem dX10_settlement_36 : decode cX10_settlement 36 = .ok (.aload_n 0, 1) := by decide +kernel
theorem dX10_settlement_37 : decode cX10_settlement 37 = .ok (.ldc 72, 2) := by decide +kernel
theorem dX10_settlement_39 : decode cX10_settlement 39 = .ok (.invokevirtual 46, 3) := by decide +kernel
theorem dX10_settlement_42 : decode cX10_settlement 42 = .ok (.goto 5, 3) := by decide +kernel
theorem dX10_settlement_45 : decode cX10_settlement 45 = .ok (.iload 4, 2) := by decide +kernel
theorem dX10_settlement_47 : decode cX10_settlement 47 = .ok (.ireturn, 1) := by decide +kernel
theorem dX10_through_0 : decode cX10_through 0 = .ok (.aload_n 0, 1) := by decide +kernel
theorem dX10_through_1 : decode cX10_through 1 = .ok (.iload_n 1, 1) := by decide +kernel
theorem dX10_through_2 : decode cX10_through 2 = .ok (.iload_n 2, 1) := by decide +kernel
theorem dX10_through_3 : decode cX10_through 3 = .ok (.iload_n 3, 1) := by decide +kernel
theorem dX10_through_4 : decode cX10_through 4 = .ok (.invokevirtual 92, 3) := by decide +kernel
theorem dX10_through_7 : decode cX10_through 7 = .ok (.ifCond .ne 10, 3) := by decide +kernel
theorem dX10_through_10 : decode cX10_through 10 = .ok (.aload_n 0, 1) := by decide +kernel
theorem dX10_through_11 : decode cX10_through 11 = .ok (.ldc 45, 2) := by decide +kernel
theorem dX10_through_13 : decode cX10_through 13 = .ok (.invokevirtual 46, 3) := by decide +kernel
theorem dX10_through_16 : decode cX10_through 16 = .ok (.ireturn, 1) := by decide +kernel
theorem dX10_through_17 : decode cX10_through 17 = .ok (.aload_n 0, 1) := by decide +kernel
theorem dX10_through_18 : decode cX10_through 18 = .ok (.iconst 0, 1) := by decide +kernel
theorem dX10_through_19 : decode cX10_through 19 = .ok (.putfield 79, 3) := by decide +kernel
theorem dX10_through_22 : decode cX10_through 22 = .ok (.aload_n 0, 1) := by decide +kernel
theorem dX10_through_23 : decode cX10_through 23 = .ok (.iload_n 1, 1) := by decide +kernel
theorem dX10_through_24 : decode cX10_through 24 = .ok (.iload_n 2, 1) := by decide +kernel
theorem dX10_through_25 : decode cX10_through 25 = .ok (.iload_n 3, 1) := by decide +kernel
theorem dX10_through_26 : decode cX10_through 26 = .ok (.invokevirtual 95, 3) := by decide +kernel
theorem dX10_through_29 : decode cX10_through 29 = .ok (.istore 4, 2) := by decide +kernel
theorem dX10_through_31 : decode cX10_through 31 = .ok (.aload_n 0, 1) := by decide +kernel
theorem dX10_through_32 : decode cX10_through 32 = .ok (.getfield 86, 3) := by decide +kernel
theorem dX10_through_35 : decode cX10_through 35 = .ok (.ireturn, 1) := by decide +kernel
theorem dX10_findOutcomes_0 : decode cX10_findOutcomes 0 = .ok (.iconst 0, 1) := by decide +kernel
theorem dX10_findOutcomes_1 : decode cX10_findOutcomes 1 = .ok (.istore 4, 2) := by decide +kernel
theorem dX10_findOutcomes_3 : decode cX10_findOutcomes 3 = .ok (.iconst 0, 1) := by decide +kernel
theorem dX10_findOutcomes_4 : decode cX10_findOutcomes 4 = .ok (.istore 5, 2) := by decide +kernel
theorem dX10_findOutcomes_6 : decode cX10_findOutcomes 6 = .ok (.iload 5, 2) := by decide +kernel
theorem dX10_findOutcomes_8 : decode cX10_findOutcomes 8 = .ok (.aload_n 0, 1) := by decide +kernel
theorem dX10_findOutcomes_9 : decode cX10_findOutcomes 9 = .ok (.getfield 9, 3) := by decide +kernel
theorem dX10_findOutcomes_12 : decode cX10_findOutcomes 12 = .ok (.iconst 2, 1) := by decide +kernel
theorem dX10_findOutcomes_13 : decode cX10_findOutcomes 13 = .ok (.iaload, 1) := by decide +kernel
theorem dX10_findOutcomes_14 : decode cX10_findOutcomes 14 = .ok (.if_icmp .ge 36, 3) := by decide +kernel
theorem dX10_findOutcomes_17 : decode cX10_findOutcomes 17 = .ok (.aload_n 0, 1) := by decide +kernel
theorem dX10_findOutcomes_18 : decode cX10_findOutcomes 18 = .ok (.getfield 9, 3) := by decide +kernel
theorem dX10_findOutcomes_21 : decode cX10_findOutcomes 21 = .ok (.sipush 297, 3) := by decide +kernel
theorem dX10_findOutcomes_24 : decode cX10_findOutcomes 24 = .ok (.iload 5, 2) := by decide +kernel
theorem dX10_findOutcomes_26 : decode cX10_findOutcomes 26 = .ok (.iadd, 1) := by decide +kernel
theorem dX10_findOutcomes_27 : decode cX10_findOutcomes 27 = .ok (.iaload, 1) := by decide +kernel
theorem dX10_findOutcomes_28 : decode cX10_findOutcomes 28 = .ok (.iconst 1, 1) := by decide +kernel
theorem dX10_findOutcomes_29 : decode cX10_findOutcomes 29 = .ok (.if_icmp .ne 15, 3) := by decide +kernel
theorem dX10_findOutcomes_32 : decode cX10_findOutcomes 32 = .ok (.aload_n 0, 1) := by decide +kernel
theorem dX10_findOutcomes_33 : decode cX10_findOutcomes 33 = .ok (.getfield 28, 3) := by decide +kernel
theorem dX10_findOutcomes_36 : decode cX10_findOutcomes 36 = .ok (.iload 4, 2) := by decide +kernel
theorem dX10_findOutcomes_38 : decode cX10_findOutcomes 38 = .ok (.iload 5, 2) := by decide +kernel
theorem dX10_findOutcomes_40 : decode cX10_findOutcomes 40 = .ok (.iastore, 1) := by decide +kernel
theorem dX10_findOutcomes_41 : decode cX10_findOutcomes 41 = .ok (.iinc 4 1, 3) := by decide +kernel
theorem dX10_findOutcomes_44 : decode cX10_findOutcomes 44 = .ok (.iinc 5 1, 3) := by decide +kernel
theorem dX10_findOutcomes_47 : decode cX10_findOutcomes 47 = .ok (.goto (-41), 3) := by decide +kernel
theorem dX10_findOutcomes_50 : decode cX10_findOutcomes 50 = .ok (.iconst 0, 1) := by decide +kernel
theorem dX10_findOutcomes_51 : decode cX10_findOutcomes 51 = .ok (.istore 5, 2) := by decide +kernel
theorem dX10_findOutcomes_53 : decode cX10_findOutcomes 53 = .ok (.iload 5, 2) := by decide +kernel
theorem dX10_findOutcomes_55 : decode cX10_findOutcomes 55 = .ok (.iconst 1, 1) := by decide +kernel
theorem dX10_findOutcomes_56 : decode cX10_findOutcomes 56 = .ok (.iload 4, 2) := by decide +kernel
theorem dX10_findOutcomes_58 : decode cX10_findOutcomes 58 = .ok (.ishl, 1) := by decide +kernel
theorem dX10_findOutcomes_59 : decode cX10_findOutcomes 59 = .ok (.if_icmp .ge 84, 3) := by decide +kernel
theorem dX10_findOutcomes_62 : decode cX10_findOutcomes 62 = .ok (.aload_n 0, 1) := by decide +kernel
theorem dX10_findOutcomes_63 : decode cX10_findOutcomes 63 = .ok (.iconst 0, 1) := by decide +kernel
theorem dX10_findOutcomes_64 : decode cX10_findOutcomes 64 = .ok (.putfield 79, 3) := by decide +kernel
theorem dX10_findOutcomes_67 : decode cX10_findOutcomes 67 = .ok (.iconst 0, 1) := by decide +kernel
theorem dX10_findOutcomes_68 : decode cX10_findOutcomes 68 = .ok (.istore 6, 2) := by decide +kernel
theorem dX10_findOutcomes_70 : decode cX10_findOutcomes 70 = .ok (.iload 6, 2) := by decide +kernel
theorem dX10_findOutcomes_72 : decode cX10_findOutcomes 72 = .ok (.iload 4, 2) := by decide +kernel
theorem dX10_findOutcomes_74 : decode cX10_findOutcomes 74 = .ok (.if_icmp .ge 33, 3) := by decide +kernel
theorem dX10_findOutcomes_77 : decode cX10_findOutcomes 77 = .ok (.aload_n 0, 1) := by decide +kernel
theorem dX10_findOutcomes_78 : decode cX10_findOutcomes 78 = .ok (.dup, 1) := by decide +kernel
theorem dX10_findOutcomes_79 : decode cX10_findOutcomes 79 = .ok (.getfield 79, 3) := by decide +kernel
theorem dX10_findOutcomes_82 : decode cX10_findOutcomes 82 = .ok (.iload 5, 2) := by decide +kernel
theorem dX10_findOutcomes_84 : decode cX10_findOutcomes 84 = .ok (.iload 6, 2) := by decide +kernel
theorem dX10_findOutcomes_86 : decode cX10_findOutcomes 86 = .ok (.ishr, 1) := by decide +kernel
theorem dX10_findOutcomes_87 : decode cX10_findOutcomes 87 = .ok (.iconst 1, 1) := by decide +kernel
theorem dX10_findOutcomes_88 : decode cX10_findOutcomes 88 = .ok (.iand, 1) := by decide +kernel
theorem dX10_findOutcomes_89 : decode cX10_findOutcomes 89 = .ok (.aload_n 0, 1) := by decide +kernel
theorem dX10_findOutcomes_90 : decode cX10_findOutcomes 90 = .ok (.getfield 28, 3) := by decide +kernel
theorem dX10_findOutcomes_93 : decode cX10_findOutcomes 93 = .ok (.iload 6, 2) := by decide +kernel
theorem dX10_findOutcomes_95 : decode cX10_findOutcomes 95 = .ok (.iaload, 1) := by decide +kernel
theorem dX10_findOutcomes_96 : decode cX10_findOutcomes 96 = .ok (.ishl, 1) := by decide +kernel
theorem dX10_findOutcomes_97 : decode cX10_findOutcomes 97 = .ok (.ior, 1) := by decide +kernel
theorem dX10_findOutcomes_98 : decode cX10_findOutcomes 98 = .ok (.putfield 79, 3) := by decide +kernel
theorem dX10_findOutcomes_101 : decode cX10_findOutcomes 101 = .ok (.iinc 6 1, 3) := by decide +kernel
theorem dX10_findOutcomes_104 : decode cX10_findOutcomes 104 = .ok (.goto (-34), 3) := by decide +kernel
theorem dX10_findOutcomes_107 : decode cX10_findOutcomes 107 = .ok (.aload_n 0, 1) := by decide +kernel
theorem dX10_findOutcomes_108 : decode cX10_findOutcomes 108 = .ok (.iload_n 1, 1) := by decide +kernel
theorem dX10_findOutcomes_109 : decode cX10_findOutcomes 109 = .ok (.iload_n 2, 1) := by decide +kernel
theorem dX10_findOutcomes_110 : decode cX10_findOutcomes 110 = .ok (.iload_n 3, 1) := by decide +kernel
theorem dX10_findOutcomes_111 : decode cX10_findOutcomes 111 = .ok (.invokevirtual 95, 3) := by decide +kernel
theorem dX10_findOutcomes_114 : decode cX10_findOutcomes 114 = .ok (.istore 6, 2) := by decide +kernel
theorem dX10_findOutcomes_116 : decode cX10_findOutcomes 116 = .ok (.aload_n 0, 1) := by decide +kernel
theorem dX10_findOutcomes_117 : decode cX10_findOutcomes 117 = .ok (.getfield 31, 3) := by decide +kernel
theorem dX10_findOutcomes_120 : decode cX10_findOutcomes 120 = .ok (.iload 5, 2) := by decide +kernel
theorem dX10_findOutcomes_122 : decode cX10_findOutcomes 122 = .ok (.iload 6, 2) := by decide +kernel
theorem dX10_findOutcomes_124 : decode cX10_findOutcomes 124 = .ok (.ifCond .ge 8, 3) := by decide +kernel
theorem dX10_findOutcomes_127 : decode cX10_findOutcomes 127 = .ok (.bipush 64, 2) := by decide +kernel
theorem dX10_findOutcomes_129 : decode cX10_findOutcomes 129 = .ok (.goto 7, 3) := by decide +kernel
theorem dX10_findOutcomes_132 : decode cX10_findOutcomes 132 = .ok (.iconst 1, 1) := by decide +kernel
theorem dX10_findOutcomes_133 : decode cX10_findOutcomes 133 = .ok (.iload 6, 2) := by decide +kernel
theorem dX10_findOutcomes_135 : decode cX10_findOutcomes 135 = .ok (.ishl, 1) := by decide +kernel
theorem dX10_findOutcomes_136 : decode cX10_findOutcomes 136 = .ok (.iastore, 1) := by decide +kernel
theorem dX10_findOutcomes_137 : decode cX10_findOutcomes 137 = .ok (.iinc 5 1, 3) := by decide +kernel
theorem dX10_findOutcomes_140 : decode cX10_findOutcomes 140 = .ok (.goto (-87), 3) := by decide +kernel
theorem dX10_findOutcomes_143 : decode cX10_findOutcomes 143 = .ok (.aload_n 0, 1) := by decide +kernel
theorem dX10_findOutcomes_144 : decode cX10_findOutcomes 144 = .ok (.iconst 0, 1) := by decide +kernel
theorem dX10_findOutcomes_145 : decode cX10_findOutcomes 145 = .ok (.putfield 79, 3) := by decide +kernel
theorem dX10_findOutcomes_148 : decode cX10_findOutcomes 148 = .ok (.iload 4, 2) := by decide +kernel
theorem dX10_findOutcomes_150 : decode cX10_findOutcomes 150 = .ok (.ireturn, 1) := by decide +kernel
theorem dX10_could_0 : decode cX10_could 0 = .ok (.aload_n 0, 1) := by decide +kernel
theorem dX10_could_1 : decode cX10_could 1 = .ok (.iload_n 1, 1) := by decide +kernel
theorem dX10_could_2 : decode cX10_could 2 = .ok (.iload_n 2, 1) := by decide +kernel
theorem dX10_could_3 : decode cX10_could 3 = .ok (.iload_n 3, 1) := by decide +kernel
theorem dX10_could_4 : decode cX10_could 4 = .ok (.invokevirtual 92, 3) := by decide +kernel
theorem dX10_could_7 : decode cX10_could 7 = .ok (.ifCond .ne 10, 3) := by decide +kernel
theorem dX10_could_10 : decode cX10_could 10 = .ok (.aload_n 0, 1) := by decide +kernel
theorem dX10_could_11 : decode cX10_could 11 = .ok (.ldc 45, 2) := by decide +kernel
theorem dX10_could_13 : decode cX10_could 13 = .ok (.invokevirtual 46, 3) := by decide +kernel
theorem dX10_could_16 : decode cX10_could 16 = .ok (.ireturn, 1) := by decide +kernel
theorem dX10_could_17 : decode cX10_could 17 = .ok (.aload_n 0, 1) := by decide +kernel
theorem dX10_could_18 : decode cX10_could 18 = .ok (.iload_n 1, 1) := by decide +kernel
theorem dX10_could_19 : decode cX10_could 19 = .ok (.iload_n 2, 1) := by decide +kernel
theorem dX10_could_20 : decode cX10_could 20 = .ok (.iload_n 3, 1) := by decide +kernel
theorem dX10_could_21 : decode cX10_could 21 = .ok (.invokevirtual 98, 3) := by decide +kernel
theorem dX10_could_24 : decode cX10_could 24 = .ok (.istore 4, 2) := by decide +kernel
theorem dX10_could_26 : decode cX10_could 26 = .ok (.iconst 0, 1) := by decide +kernel
theorem dX10_could_27 : decode cX10_could 27 = .ok (.istore 5, 2) := by decide +kernel
theorem dX10_could_29 : decode cX10_could 29 = .ok (.iconst 0, 1) := by decide +kernel
theorem dX10_could_30 : decode cX10_could 30 = .ok (.istore 6, 2) := by decide +kernel
theorem dX10_could_32 : decode cX10_could 32 = .ok (.iload 6, 2) := by decide +kernel
theorem dX10_could_34 : decode cX10_could 34 = .ok (.iconst 1, 1) := by decide +kernel
theorem dX10_could_35 : decode cX10_could 35 = .ok (.iload 4, 2) := by decide +kernel
theorem dX10_could_37 : decode cX10_could 37 = .ok (.ishl, 1) := by decide +kernel
theorem dX10_could_38 : decode cX10_could 38 = .ok (.if_icmp .ge 21, 3) := by decide +kernel
theorem dX10_could_41 : decode cX10_could 41 = .ok (.iload 5, 2) := by decide +kernel
theorem dX10_could_43 : decode cX10_could 43 = .ok (.aload_n 0, 1) := by decide +kernel
theorem dX10_could_44 : decode cX10_could 44 = .ok (.getfield 31, 3) := by decide +kernel
theorem dX10_could_47 : decode cX10_could 47 = .ok (.iload 6, 2) := by decide +kernel
theorem dX10_could_49 : decode cX10_could 49 = .ok (.iaload, 1) := by decide +kernel
theorem dX10_could_50 : decode cX10_could 50 = .ok (.ior, 1) := by decide +kernel
theorem dX10_could_51 : decode cX10_could 51 = .ok (.istore 5, 2) := by decide +kernel
theorem dX10_could_53 : decode cX10_could 53 = .ok (.iinc 6 1, 3) := by decide +kernel
theorem dX10_could_56 : decode cX10_could 56 = .ok (.goto (-24), 3) := by decide +kernel
theorem dX10_could_59 : decode cX10_could 59 = .ok (.iload 5, 2) := by decide +kernel
theorem dX10_could_61 : decode cX10_could 61 = .ok (.ireturn, 1) := by decide +kernel
theorem dX10_many_0 : decode cX10_many 0 = .ok (.iconst 0, 1) := by decide +kernel
theorem dX10_many_1 : decode cX10_many 1 = .ok (.istore_n 1, 1) := by decide +kernel
theorem dX10_many_2 : decode cX10_many 2 = .ok (.iconst 0, 1) := by decide +kernel
theorem dX10_many_3 : decode cX10_many 3 = .ok (.istore_n 2, 1) := by decide +kernel
theorem dX10_many_4 : decode cX10_many 4 = .ok (.iload_n 2, 1) := by decide +kernel
theorem dX10_many_5 : decode cX10_many 5 = .ok (.bipush 7, 2) := by decide +kernel
theorem dX10_many_7 : decode cX10_many 7 = .ok (.if_icmp .ge 17, 3) := by decide +kernel
theorem dX10_many_10 : decode cX10_many 10 = .ok (.iload_n 1, 1) := by decide +kernel
theorem dX10_many_11 : decode cX10_many 11 = .ok (.iload_n 0, 1) := by decide +kernel
theorem dX10_many_12 : decode cX10_many 12 = .ok (.iload_n 2, 1) := by decide +kernel
theorem dX10_many_13 : decode cX10_many 13 = .ok (.ishr, 1) := by decide +kernel
theorem dX10_many_14 : decode cX10_many 14 = .ok (.iconst 1, 1) := by decide +kernel
theorem dX10_many_15 : decode cX10_many 15 = .ok (.iand, 1) := by decide +kernel
theorem dX10_many_16 : decode cX10_many 16 = .ok (.iadd, 1) := by decide +kernel
theorem dX10_many_17 : decode cX10_many 17 = .ok (.istore_n 1, 1) := by decide +kernel
theorem dX10_many_18 : decode cX10_many 18 = .ok (.iinc 2 1, 3) := by decide +kernel
theorem dX10_many_21 : decode cX10_many 21 = .ok (.goto (-17), 3) := by decide +kernel
theorem dX10_many_24 : decode cX10_many 24 = .ok (.iload_n 1, 1) := by decide +kernel
theorem dX10_many_25 : decode cX10_many 25 = .ok (.ireturn, 1) := by decide +kernel
theorem dX10_question_0 : decode cX10_question 0 = .ok (.aload_n 0, 1) := by decide +kernel
theorem dX10_question_1 : decode cX10_question 1 = .ok (.iload_n 1, 1) := by decide +kernel
theorem dX10_question_2 : decode cX10_question 2 = .ok (.iload_n 2, 1) := by decide +kernel
theorem dX10_question_3 : decode cX10_question 3 = .ok (.iload_n 3, 1) := by decide +kernel
theorem dX10_question_4 : decode cX10_question 4 = .ok (.invokevirtual 92, 3) := by decide +kernel
theorem dX10_question_7 : decode cX10_question 7 = .ok (.ifCond .ne 10, 3) := by decide +kernel
theorem dX10_question_10 : decode cX10_question 10 = .ok (.aload_n 0, 1) := by decide +kernel
theorem dX10_question_11 : decode cX10_question 11 = .ok (.ldc 45, 2) := by decide +kernel
theorem dX10_question_13 : decode cX10_question 13 = .ok (.invokevirtual 46, 3) := by decide +kernel
theorem dX10_question_16 : decode cX10_question 16 = .ok (.ireturn, 1) := by decide +kernel
theorem dX10_question_17 : decode cX10_question 17 = .ok (.aload_n 0, 1) := by decide +kernel
theorem dX10_question_18 : decode cX10_question 18 = .ok (.iload_n 1, 1) := by decide +kernel
theorem dX10_question_19 : decode cX10_question 19 = .ok (.iload_n 2, 1) := by decide +kernel
theorem dX10_question_20 : decode cX10_question 20 = .ok (.iload_n 3, 1) := by decide +kernel
theorem dX10_question_21 : decode cX10_question 21 = .ok (.invokevirtual 98, 3) := by decide +kernel
theorem dX10_question_24 : decode cX10_question 24 = .ok (.istore 4, 2) := by decide +kernel
theorem dX10_question_26 : decode cX10_question 26 = .ok (.iconst (-1), 1) := by decide +kernel
theorem dX10_question_27 : decode cX10_question 27 = .ok (.istore 5, 2) := by decide +kernel
theorem dX10_question_29 : decode cX10_question 29 = .ok (.bipush 100, 2) := by decide +kernel
theorem dX10_question_31 : decode cX10_question 31 = .ok (.istore 6, 2) := by decide +kernel
theorem dX10_question_33 : decode cX10_question 33 = .ok (.iconst 0, 1) := by decide +kernel
theorem dX10_question_34 : decode cX10_question 34 = .ok (.istore 7, 2) := by decide +kernel
theorem dX10_question_36 : decode cX10_question 36 = .ok (.iload 7, 2) := by decide +kernel
theorem dX10_question_38 : decode cX10_question 38 = .ok (.iload 4, 2) := by decide +kernel
theorem dX10_question_40 : decode cX10_question 40 = .ok (.if_icmp .ge 121, 3) := by decide +kernel
theorem dX10_question_43 : decode cX10_question 43 = .ok (.iconst 0, 1) := by decide +kernel
theorem dX10_question_44 : decode cX10_question 44 = .ok (.istore 8, 2) := by decide +kernel
theorem dX10_question_46 : decode cX10_question 46 = .ok (.iconst 0, 1) := by decide +kernel
theorem dX10_question_47 : decode cX10_question 47 = .ok (.istore 9, 2) := by decide +kernel
theorem dX10_question_49 : decode cX10_question 49 = .ok (.iconst 0, 1) := by decide +kernel
theorem dX10_question_50 : decode cX10_question 50 = .ok (.istore 10, 2) := by decide +kernel
theorem dX10_question_52 : decode cX10_question 52 = .ok (.iload 10, 2) := by decide +kernel
theorem dX10_question_54 : decode cX10_question 54 = .ok (.iconst 1, 1) := by decide +kernel
theorem dX10_question_55 : decode cX10_question 55 = .ok (.iload 4, 2) := by decide +kernel
theorem dX10_question_57 : decode cX10_question 57 = .ok (.ishl, 1) := by decide +kernel
theorem dX10_question_58 : decode cX10_question 58 = .ok (.if_icmp .ge 62, 3) := by decide +kernel
theorem dX10_question_61 : decode cX10_question 61 = .ok (.iload 8, 2) := by decide +kernel
theorem dX10_question_63 : decode cX10_question 63 = .ok (.iload 10, 2) := by decide +kernel
theorem dX10_question_65 : decode cX10_question 65 = .ok (.iload 7, 2) := by decide +kernel
theorem dX10_question_67 : decode cX10_question 67 = .ok (.ishr, 1) := by decide +kernel
theorem dX10_question_68 : decode cX10_question 68 = .ok (.iconst 1, 1) := by decide +kernel
theorem dX10_question_69 : decode cX10_question 69 = .ok (.iand, 1) := by decide +kernel
theorem dX10_question_70 : decode cX10_question 70 = .ok (.ifCond .ne 13, 3) := by decide +kernel
theorem dX10_question_73 : decode cX10_question 73 = .ok (.aload_n 0, 1) := by decide +kernel
theorem dX10_question_74 : decode cX10_question 74 = .ok (.getfield 31, 3) := by decide +kernel
theorem dX10_question_77 : decode cX10_question 77 = .ok (.iload 10, 2) := by decide +kernel
theorem dX10_question_79 : decode cX10_question 79 = .ok (.iaload, 1) := by decide +kernel
theorem dX10_question_80 : decode cX10_question 80 = .ok (.goto 4, 3) := by decide +kernel
theorem dX10_question_83 : decode cX10_question 83 = .ok (.iconst 0, 1) := by decide +kernel
theorem dX10_question_84 : decode cX10_question 84 = .ok (.ior, 1) := by decide +kernel
theorem dX10_question_85 : decode cX10_question 85 = .ok (.istore 8, 2) := by decide +kernel
theorem dX10_question_87 : decode cX10_question 87 = .ok (.iload 9, 2) := by decide +kernel
theorem dX10_question_89 : decode cX10_question 89 = .ok (.iload 10, 2) := by decide +kernel
theorem dX10_question_91 : decode cX10_question 91 = .ok (.iload 7, 2) := by decide +kernel
theorem dX10_question_93 : decode cX10_question 93 = .ok (.ishr, 1) := by decide +kernel
theorem dX10_question_94 : decode cX10_question 94 = .ok (.iconst 1, 1) := by decide +kernel
theorem dX10_question_95 : decode cX10_question 95 = .ok (.iand, 1) := by decide +kernel
theorem dX10_question_96 : decode cX10_question 96 = .ok (.iconst 1, 1) := by decide +kernel
theorem dX10_question_97 : decode cX10_question 97 = .ok (.if_icmp .ne 13, 3) := by decide +kernel
theorem dX10_question_100 : decode cX10_question 100 = .ok (.aload_n 0, 1) := by decide +kernel
theorem dX10_question_101 : decode cX10_question 101 = .ok (.getfield 31, 3) := by decide +kernel
theorem dX10_question_104 : decode cX10_question 104 = .ok (.iload 10, 2) := by decide +kernel
theorem dX10_question_106 : decode cX10_question 106 = .ok (.iaload, 1) := by decide +kernel
theorem dX10_question_107 : decode cX10_question 107 = .ok (.goto 4, 3) := by decide +kernel
theorem dX10_question_110 : decode cX10_question 110 = .ok (.iconst 0, 1) := by decide +kernel
theorem dX10_question_111 : decode cX10_question 111 = .ok (.ior, 1) := by decide +kernel
theorem dX10_question_112 : decode cX10_question 112 = .ok (.istore 9, 2) := by decide +kernel
theorem dX10_question_114 : decode cX10_question 114 = .ok (.iinc 10 1, 3) := by decide +kernel
theorem dX10_question_117 : decode cX10_question 117 = .ok (.goto (-65), 3) := by decide +kernel
theorem dX10_question_120 : decode cX10_question 120 = .ok (.iload 8, 2) := by decide +kernel
theorem dX10_question_122 : decode cX10_question 122 = .ok (.invokestatic 101, 3) := by decide +kernel
theorem dX10_question_125 : decode cX10_question 125 = .ok (.iload 9, 2) := by decide +kernel
theorem dX10_question_127 : decode cX10_question 127 = .ok (.invokestatic 101, 3) := by decide +kernel
theorem dX10_question_130 : decode cX10_question 130 = .ok (.invokestatic 104, 3) := by decide +kernel
theorem dX10_question_133 : decode cX10_question 133 = .ok (.istore 10, 2) := by decide +kernel
theorem dX10_question_135 : decode cX10_question 135 = .ok (.iload 10, 2) := by decide +kernel
theorem dX10_question_137 : decode cX10_question 137 = .ok (.iload 6, 2) := by decide +kernel
theorem dX10_question_139 : decode cX10_question 139 = .ok (.if_icmp .ge 16, 3) := by decide +kernel
theorem dX10_question_142 : decode cX10_question 142 = .ok (.iload 10, 2) := by decide +kernel
theorem dX10_question_144 : decode cX10_question 144 = .ok (.istore 6, 2) := by decide +kernel
theorem dX10_question_146 : decode cX10_question 146 = .ok (.aload_n 0, 1) := by decide +kernel
theorem dX10_question_147 : decode cX10_question 147 = .ok (.getfield 28, 3) := by decide +kernel
theorem dX10_question_150 : decode cX10_question 150 = .ok (.iload 7, 2) := by decide +kernel
theorem dX10_question_152 : decode cX10_question 152 = .ok (.iaload, 1) := by decide +kernel
theorem dX10_question_153 : decode cX10_question 153 = .ok (.istore 5, 2) := by decide +kernel
theorem dX10_question_155 : decode cX10_question 155 = .ok (.iinc 7 1, 3) := by decide +kernel
theorem dX10_question_158 : decode cX10_question 158 = .ok (.goto (-122), 3) := by decide +kernel
theorem dX10_question_161 : decode cX10_question 161 = .ok (.iload 5, 2) := by decide +kernel
theorem dX10_question_163 : decode cX10_question 163 = .ok (.ifCond .ge 12, 3) := by decide +kernel
theorem dX10_question_166 : decode cX10_question 166 = .ok (.aload_n 0, 1) := by decide +kernel
theorem dX10_question_167 : decode cX10_question 167 = .ok (.ldc 72, 2) := by decide +kernel
theorem dX10_question_169 : decode cX10_question 169 = .ok (.invokevirtual 46, 3) := by decide +kernel
theorem dX10_question_172 : decode cX10_question 172 = .ok (.goto 5, 3) := by decide +kernel
theorem dX10_question_175 : decode cX10_question 175 = .ok (.iload 5, 2) := by decide +kernel
theorem dX10_question_177 : decode cX10_question 177 = .ok (.ireturn, 1) := by decide +kernel
theorem dX10_order_0 : decode cX10_order 0 = .ok (.aload_n 0, 1) := by decide +kernel
theorem dX10_order_1 : decode cX10_order 1 = .ok (.iload_n 1, 1) := by decide +kernel
theorem dX10_order_2 : decode cX10_order 2 = .ok (.invokevirtual 59, 3) := by decide +kernel
theorem dX10_order_5 : decode cX10_order 5 = .ok (.ifCond .eq 27, 3) := by decide +kernel
theorem dX10_order_8 : decode cX10_order 8 = .ok (.aload_n 0, 1) := by decide +kernel
theorem dX10_order_9 : decode cX10_order 9 = .ok (.iload_n 2, 1) := by decide +kernel
theorem dX10_order_10 : decode cX10_order 10 = .ok (.invokevirtual 51, 3) := by decide +kernel
theorem dX10_order_13 : decode cX10_order 13 = .ok (.ifCond .eq 19, 3) := by decide +kernel
theorem dX10_order_16 : decode cX10_order 16 = .ok (.aload_n 0, 1) := by decide +kernel
theorem dX10_order_17 : decode cX10_order 17 = .ok (.iload_n 3, 1) := by decide +kernel
theorem dX10_order_18 : decode cX10_order 18 = .ok (.invokevirtual 51, 3) := by decide +kernel
theorem dX10_order_21 : decode cX10_order 21 = .ok (.ifCond .eq 11, 3) := by decide +kernel
theorem dX10_order_24 : decode cX10_order 24 = .ok (.iload 4, 2) := by decide +kernel
theorem dX10_order_26 : decode cX10_order 26 = .ok (.invokestatic 56, 3) := by decide +kernel
theorem dX10_order_29 : decode cX10_order 29 = .ok (.ifCond .ne 10, 3) := by decide +kernel
theorem dX10_order_32 : decode cX10_order 32 = .ok (.aload_n 0, 1) := by decide +kernel
theorem dX10_order_33 : decode cX10_order 33 = .ok (.ldc 45, 2) := by decide +kernel
theorem dX10_order_35 : decode cX10_order 35 = .ok (.invokevirtual 46, 3) := by decide +kernel
theorem dX10_order_38 : decode cX10_order 38 = .ok (.ireturn, 1) := by decide +kernel
theorem dX10_order_39 : decode cX10_order 39 = .ok (.iload_n 2, 1) := by decide +kernel
theorem dX10_order_40 : decode cX10_order 40 = .ok (.iload_n 3, 1) := by decide +kernel
theorem dX10_order_41 : decode cX10_order 41 = .ok (.if_icmp .ne 10, 3) := by decide +kernel
theorem dX10_order_44 : decode cX10_order 44 = .ok (.aload_n 0, 1) := by decide +kernel
theorem dX10_order_45 : decode cX10_order 45 = .ok (.ldc 55, 2) := by decide +kernel
theorem dX10_order_47 : decode cX10_order 47 = .ok (.invokevirtual 46, 3) := by decide +kernel
theorem dX10_order_50 : decode cX10_order 50 = .ok (.ireturn, 1) := by decide +kernel
theorem dX10_order_51 : decode cX10_order 51 = .ok (.aload_n 0, 1) := by decide +kernel
theorem dX10_order_52 : decode cX10_order 52 = .ok (.getfield 9, 3) := by decide +kernel
theorem dX10_order_55 : decode cX10_order 55 = .ok (.iconst 4, 1) := by decide +kernel
theorem dX10_order_56 : decode cX10_order 56 = .ok (.iaload, 1) := by decide +kernel
theorem dX10_order_57 : decode cX10_order 57 = .ok (.istore 5, 2) := by decide +kernel
theorem dX10_order_59 : decode cX10_order 59 = .ok (.iload 5, 2) := by decide +kernel
theorem dX10_order_61 : decode cX10_order 61 = .ok (.bipush 20, 2) := by decide +kernel
theorem dX10_order_63 : decode cX10_order 63 = .ok (.if_icmp .ne 10, 3) := by decide +kernel
theorem dX10_order_66 : decode cX10_order 66 = .ok (.aload_n 0, 1) := by decide +kernel
theorem dX10_order_67 : decode cX10_order 67 = .ok (.ldc 50, 2) := by decide +kernel
theorem dX10_order_69 : decode cX10_order 69 = .ok (.invokevirtual 46, 3) := by decide +kernel
theorem dX10_order_72 : decode cX10_order 72 = .ok (.ireturn, 1) := by decide +kernel
theorem dX10_order_73 : decode cX10_order 73 = .ok (.aload_n 0, 1) := by decide +kernel
theorem dX10_order_74 : decode cX10_order 74 = .ok (.getfield 9, 3) := by decide +kernel
theorem dX10_order_77 : decode cX10_order 77 = .ok (.sipush 369, 3) := by decide +kernel
theorem dX10_order_80 : decode cX10_order 80 = .ok (.iload 5, 2) := by decide +kernel
theorem dX10_order_82 : decode cX10_order 82 = .ok (.iadd, 1) := by decide +kernel
theorem dX10_order_83 : decode cX10_order 83 = .ok (.iload_n 1, 1) := by decide +kernel
theorem dX10_order_84 : decode cX10_order 84 = .ok (.iastore, 1) := by decide +kernel
theorem dX10_order_85 : decode cX10_order 85 = .ok (.aload_n 0, 1) := by decide +kernel
theorem dX10_order_86 : decode cX10_order 86 = .ok (.getfield 9, 3) := by decide +kernel
theorem dX10_order_89 : decode cX10_order 89 = .ok (.sipush 389, 3) := by decide +kernel
theorem dX10_order_92 : decode cX10_order 92 = .ok (.iload 5, 2) := by decide +kernel
theorem dX10_order_94 : decode cX10_order 94 = .ok (.iadd, 1) := by decide +kernel
theorem dX10_order_95 : decode cX10_order 95 = .ok (.iload_n 2, 1) := by decide +kernel
theorem dX10_order_96 : decode cX10_order 96 = .ok (.iastore, 1) := by decide +kernel
theorem dX10_order_97 : decode cX10_order 97 = .ok (.aload_n 0, 1) := by decide +kernel
theorem dX10_order_98 : decode cX10_order 98 = .ok (.getfield 9, 3) := by decide +kernel
theorem dX10_order_101 : decode cX10_order 101 = .ok (.sipush 409, 3) := by decide +kernel
theorem dX10_order_104 : decode cX10_order 104 = .ok (.iload 5, 2) := by decide +kernel
theorem dX10_order_106 : decode cX10_order 106 = .ok (.iadd, 1) := by decide +kernel
theorem dX10_order_107 : decode cX10_order 107 = .ok (.iload_n 3, 1) := by decide +kernel
theorem dX10_order_108 : decode cX10_order 108 = .ok (.iastore, 1) := by decide +kernel
theorem dX10_order_109 : decode cX10_order 109 = .ok (.aload_n 0, 1) := by decide +kernel
theorem dX10_order_110 : decode cX10_order 110 = .ok (.getfield 9, 3) := by decide +kernel
theorem dX10_order_113 : decode cX10_order 113 = .ok (.sipush 429, 3) := by decide +kernel
theorem dX10_order_116 : decode cX10_order 116 = .ok (.iload 5, 2) := by decide +kernel
theorem dX10_order_118 : decode cX10_order 118 = .ok (.iadd, 1) := by decide +kernel
theorem dX10_order_119 : decode cX10_order 119 = .ok (.iload 4, 2) := by decide +kernel
theorem dX10_order_121 : decode cX10_order 121 = .ok (.iastore, 1) := by decide +kernel
theorem dX10_order_122 : decode cX10_order 122 = .ok (.aload_n 0, 1) := by decide +kernel
theorem dX10_order_123 : decode cX10_order 123 = .ok (.getfield 9, 3) := by decide +kernel
theorem dX10_order_126 : decode cX10_order 126 = .ok (.sipush 449, 3) := by decide +kernel
theorem dX10_order_129 : decode cX10_order 129 = .ok (.iload 5, 2) := by decide +kernel
theorem dX10_order_131 : decode cX10_order 131 = .ok (.iadd, 1) := by decide +kernel
theorem dX10_order_132 : decode cX10_order 132 = .ok (.iconst 4, 1) := by decide +kernel
theorem dX10_order_133 : decode cX10_order 133 = .ok (.aload_n 0, 1) := by decide +kernel
theorem dX10_order_134 : decode cX10_order 134 = .ok (.getfield 9, 3) := by decide +kernel
theorem dX10_order_137 : decode cX10_order 137 = .ok (.bipush 13, 2) := by decide +kernel
theorem dX10_order_139 : decode cX10_order 139 = .ok (.bipush 6, 2) := by decide +kernel
theorem dX10_order_141 : decode cX10_order 141 = .ok (.iload_n 2, 1) := by decide +kernel
theorem dX10_order_142 : decode cX10_order 142 = .ok (.imul, 1) := by decide +kernel
theorem dX10_order_143 : decode cX10_order 143 = .ok (.iadd, 1) := by decide +kernel
theorem dX10_order_144 : decode cX10_order 144 = .ok (.iload_n 3, 1) := by decide +kernel
theorem dX10_order_145 : decode cX10_order 145 = .ok (.iadd, 1) := by decide +kernel
theorem dX10_order_146 : decode cX10_order 146 = .ok (.iaload, 1) := by decide +kernel
theorem dX10_order_147 : decode cX10_order 147 = .ok (.imul, 1) := by decide +kernel
theorem dX10_order_148 : decode cX10_order 148 = .ok (.iastore, 1) := by decide +kernel
theorem dX10_order_149 : decode cX10_order 149 = .ok (.aload_n 0, 1) := by decide +kernel
theorem dX10_order_150 : decode cX10_order 150 = .ok (.getfield 9, 3) := by decide +kernel
theorem dX10_order_153 : decode cX10_order 153 = .ok (.sipush 469, 3) := by decide +kernel
theorem dX10_order_156 : decode cX10_order 156 = .ok (.iload 5, 2) := by decide +kernel
theorem dX10_order_158 : decode cX10_order 158 = .ok (.iadd, 1) := by decide +kernel
theorem dX10_order_159 : decode cX10_order 159 = .ok (.iconst 0, 1) := by decide +kernel
theorem dX10_order_160 : decode cX10_order 160 = .ok (.iastore, 1) := by decide +kernel
theorem dX10_order_161 : decode cX10_order 161 = .ok (.aload_n 0, 1) := by decide +kernel
theorem dX10_order_162 : decode cX10_order 162 = .ok (.getfield 9, 3) := by decide +kernel
theorem dX10_order_165 : decode cX10_order 165 = .ok (.iconst 4, 1) := by decide +kernel
theorem dX10_order_166 : decode cX10_order 166 = .ok (.dup2, 1) := by decide +kernel
theorem dX10_order_167 : decode cX10_order 167 = .ok (.iaload, 1) := by decide +kernel
theorem dX10_order_168 : decode cX10_order 168 = .ok (.iconst 1, 1) := by decide +kernel
theorem dX10_order_169 : decode cX10_order 169 = .ok (.iadd, 1) := by decide +kernel
theorem dX10_order_170 : decode cX10_order 170 = .ok (.iastore, 1) := by decide +kernel
theorem dX10_order_171 : decode cX10_order 171 = .ok (.iload 5, 2) := by decide +kernel
theorem dX10_order_173 : decode cX10_order 173 = .ok (.ireturn, 1) := by decide +kernel
theorem dX10_isOrder_0 : decode cX10_isOrder 0 = .ok (.iload_n 1, 1) := by decide +kernel
theorem dX10_isOrder_1 : decode cX10_isOrder 1 = .ok (.iconst 0, 1) := by decide +kernel
theorem dX10_isOrder_2 : decode cX10_isOrder 2 = .ok (.aload_n 0, 1) := by decide +kernel
theorem dX10_isOrder_3 : decode cX10_isOrder 3 = .ok (.getfield 9, 3) := by decide +kernel
theorem dX10_isOrder_6 : decode cX10_isOrder 6 = .ok (.iconst 4, 1) := by decide +kernel
theorem dX10_isOrder_7 : decode cX10_isOrder 7 = .ok (.iaload, 1) := by decide +kernel
theorem dX10_isOrder_8 : decode cX10_isOrder 8 = .ok (.iconst 1, 1) := by decide +kernel
theorem dX10_isOrder_9 : decode cX10_isOrder 9 = .ok (.isub, 1) := by decide +kernel
theorem dX10_isOrder_10 : decode cX10_isOrder 10 = .ok (.invokestatic 41, 3) := by decide +kernel
theorem dX10_isOrder_13 : decode cX10_isOrder 13 = .ok (.ireturn, 1) := by decide +kernel
theorem dX10_appeal_0 : decode cX10_appeal 0 = .ok (.aload_n 0, 1) := by decide +kernel
theorem dX10_appeal_1 : decode cX10_appeal 1 = .ok (.iload_n 1, 1) := by decide +kernel
theorem dX10_appeal_2 : decode cX10_appeal 2 = .ok (.invokevirtual 110, 3) := by decide +kernel
theorem dX10_appeal_5 : decode cX10_appeal 5 = .ok (.ifCond .eq 10, 3) := by decide +kernel
theorem dX10_appeal_8 : decode cX10_appeal 8 = .ok (.iload_n 2, 1) := by decide +kernel
theorem dX10_appeal_9 : decode cX10_appeal 9 = .ok (.invokestatic 56, 3) := by decide +kernel
theorem dX10_appeal_12 : decode cX10_appeal 12 = .ok (.ifCond .ne 10, 3) := by decide +kernel
theorem dX10_appeal_15 : decode cX10_appeal 15 = .ok (.aload_n 0, 1) := by decide +kernel
theorem dX10_appeal_16 : decode cX10_appeal 16 = .ok (.ldc 45, 2) := by decide +kernel
theorem dX10_appeal_18 : decode cX10_appeal 18 = .ok (.invokevirtual 46, 3) := by decide +kernel
theorem dX10_appeal_21 : decode cX10_appeal 21 = .ok (.ireturn, 1) := by decide +kernel
theorem dX10_appeal_22 : decode cX10_appeal 22 = .ok (.aload_n 0, 1) := by decide +kernel
theorem dX10_appeal_23 : decode cX10_appeal 23 = .ok (.getfield 9, 3) := by decide +kernel
theorem dX10_appeal_26 : decode cX10_appeal 26 = .ok (.sipush 469, 3) := by decide +kernel
theorem dX10_appeal_29 : decode cX10_appeal 29 = .ok (.iload_n 1, 1) := by decide +kernel
theorem dX10_appeal_30 : decode cX10_appeal 30 = .ok (.iadd, 1) := by decide +kernel
theorem dX10_appeal_31 : decode cX10_appeal 31 = .ok (.iaload, 1) := by decide +kernel
theorem dX10_appeal_32 : decode cX10_appeal 32 = .ok (.ifCond .eq 10, 3) := by decide +kernel
theorem dX10_appeal_35 : decode cX10_appeal 35 = .ok (.aload_n 0, 1) := by decide +kernel
theorem dX10_appeal_36 : decode cX10_appeal 36 = .ok (.ldc 62, 2) := by decide +kernel
theorem dX10_appeal_38 : decode cX10_appeal 38 = .ok (.invokevirtual 46, 3) := by decide +kernel
theorem dX10_appeal_41 : decode cX10_appeal 41 = .ok (.ireturn, 1) := by decide +kernel
theorem dX10_appeal_42 : decode cX10_appeal 42 = .ok (.aload_n 0, 1) := by decide +kernel
theorem dX10_appeal_43 : decode cX10_appeal 43 = .ok (.getfield 9, 3) := by decide +kernel
theorem dX10_appeal_46 : decode cX10_appeal 46 = .ok (.sipush 429, 3) := by decide +kernel
theorem dX10_appeal_49 : decode cX10_appeal 49 = .ok (.iload_n 1, 1) := by decide +kernel
theorem dX10_appeal_50 : decode cX10_appeal 50 = .ok (.iadd, 1) := by decide +kernel
theorem dX10_appeal_51 : decode cX10_appeal 51 = .ok (.iaload, 1) := by decide +kernel
theorem dX10_appeal_52 : decode cX10_appeal 52 = .ok (.istore_n 3, 1) := by decide +kernel
theorem dX10_appeal_53 : decode cX10_appeal 53 = .ok (.iload_n 2, 1) := by decide +kernel
theorem dX10_appeal_54 : decode cX10_appeal 54 = .ok (.iload_n 3, 1) := by decide +kernel
theorem dX10_appeal_55 : decode cX10_appeal 55 = .ok (.if_icmp .lt 15, 3) := by decide +kernel
theorem dX10_appeal_58 : decode cX10_appeal 58 = .ok (.iload_n 2, 1) := by decide +kernel
theorem dX10_appeal_59 : decode cX10_appeal 59 = .ok (.iload_n 3, 1) := by decide +kernel
theorem dX10_appeal_60 : decode cX10_appeal 60 = .ok (.aload_n 0, 1) := by decide +kernel
theorem dX10_appeal_61 : decode cX10_appeal 61 = .ok (.getfield 9, 3) := by decide +kernel
theorem dX10_appeal_64 : decode cX10_appeal 64 = .ok (.iconst 5, 1) := by decide +kernel
theorem dX10_appeal_65 : decode cX10_appeal 65 = .ok (.iaload, 1) := by decide +kernel
theorem dX10_appeal_66 : decode cX10_appeal 66 = .ok (.iadd, 1) := by decide +kernel
theorem dX10_appeal_67 : decode cX10_appeal 67 = .ok (.if_icmp .le 10, 3) := by decide +kernel
theorem dX10_appeal_70 : decode cX10_appeal 70 = .ok (.aload_n 0, 1) := by decide +kernel
theorem dX10_appeal_71 : decode cX10_appeal 71 = .ok (.ldc 113, 2) := by decide +kernel
theorem dX10_appeal_73 : decode cX10_appeal 73 = .ok (.invokevirtual 46, 3) := by decide +kernel
theorem dX10_appeal_76 : decode cX10_appeal 76 = .ok (.ireturn, 1) := by decide +kernel
theorem dX10_appeal_77 : decode cX10_appeal 77 = .ok (.aload_n 0, 1) := by decide +kernel
theorem dX10_appeal_78 : decode cX10_appeal 78 = .ok (.iconst 0, 1) := by decide +kernel
theorem dX10_appeal_79 : decode cX10_appeal 79 = .ok (.putfield 79, 3) := by decide +kernel
theorem dX10_appeal_82 : decode cX10_appeal 82 = .ok (.aload_n 0, 1) := by decide +kernel
theorem dX10_appeal_83 : decode cX10_appeal 83 = .ok (.aload_n 0, 1) := by decide +kernel
theorem dX10_appeal_84 : decode cX10_appeal 84 = .ok (.getfield 9, 3) := by decide +kernel
theorem dX10_appeal_87 : decode cX10_appeal 87 = .ok (.sipush 369, 3) := by decide +kernel
theorem dX10_appeal_90 : decode cX10_appeal 90 = .ok (.iload_n 1, 1) := by decide +kernel
theorem dX10_appeal_91 : decode cX10_appeal 91 = .ok (.iadd, 1) := by decide +kernel
theorem dX10_appeal_92 : decode cX10_appeal 92 = .ok (.iaload, 1) := by decide +kernel
theorem dX10_appeal_93 : decode cX10_appeal 93 = .ok (.iload_n 3, 1) := by decide +kernel
theorem dX10_appeal_94 : decode cX10_appeal 94 = .ok (.iload_n 2, 1) := by decide +kernel
theorem dX10_appeal_95 : decode cX10_appeal 95 = .ok (.invokevirtual 95, 3) := by decide +kernel
theorem dX10_appeal_98 : decode cX10_appeal 98 = .ok (.aload_n 0, 1) := by decide +kernel
theorem dX10_appeal_99 : decode cX10_appeal 99 = .ok (.getfield 9, 3) := by decide +kernel
theorem dX10_appeal_102 : decode cX10_appeal 102 = .ok (.sipush 409, 3) := by decide +kernel
theorem dX10_appeal_105 : decode cX10_appeal 105 = .ok (.iload_n 1, 1) := by decide +kernel
theorem dX10_appeal_106 : decode cX10_appeal 106 = .ok (.iadd, 1) := by decide +kernel
theorem dX10_appeal_107 : decode cX10_appeal 107 = .ok (.iaload, 1) := by decide +kernel
theorem dX10_appeal_108 : decode cX10_appeal 108 = .ok (.if_icmp .ne 7, 3) := by decide +kernel
theorem dX10_appeal_111 : decode cX10_appeal 111 = .ok (.iconst 1, 1) := by decide +kernel
theorem dX10_appeal_112 : decode cX10_appeal 112 = .ok (.goto 4, 3) := by decide +kernel
theorem dX10_appeal_115 : decode cX10_appeal 115 = .ok (.iconst 0, 1) := by decide +kernel
theorem dX10_appeal_116 : decode cX10_appeal 116 = .ok (.istore 4, 2) := by decide +kernel
theorem dX10_appeal_118 : decode cX10_appeal 118 = .ok (.aload_n 0, 1) := by decide +kernel
theorem dX10_appeal_119 : decode cX10_appeal 119 = .ok (.getfield 9, 3) := by decide +kernel
theorem dX10_appeal_122 : decode cX10_appeal 122 = .ok (.sipush 469, 3) := by decide +kernel
theorem dX10_appeal_125 : decode cX10_appeal 125 = .ok (.iload_n 1, 1) := by decide +kernel
theorem dX10_appeal_126 : decode cX10_appeal 126 = .ok (.iadd, 1) := by decide +kernel
theorem dX10_appeal_127 : decode cX10_appeal 127 = .ok (.iload 4, 2) := by decide +kernel
theorem dX10_appeal_129 : decode cX10_appeal 129 = .ok (.ifCond .eq 7, 3) := by decide +kernel
theorem dX10_appeal_132 : decode cX10_appeal 132 = .ok (.iconst 1, 1) := by decide +kernel
theorem dX10_appeal_133 : decode cX10_appeal 133 = .ok (.goto 4, 3) := by decide +kernel
theorem dX10_appeal_136 : decode cX10_appeal 136 = .ok (.iconst 2, 1) := by decide +kernel
theorem dX10_appeal_137 : decode cX10_appeal 137 = .ok (.iastore, 1) := by decide +kernel
theorem dX10_appeal_138 : decode cX10_appeal 138 = .ok (.iload 4, 2) := by decide +kernel
theorem dX10_appeal_140 : decode cX10_appeal 140 = .ok (.ifCond .eq 7, 3) := by decide +kernel
theorem dX10_appeal_143 : decode cX10_appeal 143 = .ok (.iconst 0, 1) := by decide +kernel
theorem dX10_appeal_144 : decode cX10_appeal 144 = .ok (.goto 4, 3) := by decide +kernel
theorem dX10_appeal_147 : decode cX10_appeal 147 = .ok (.iconst 1, 1) := by decide +kernel
theorem dX10_appeal_148 : decode cX10_appeal 148 = .ok (.ireturn, 1) := by decide +kernel
theorem dX10_ordered_0 : decode cX10_ordered 0 = .ok (.aload_n 0, 1) := by decide +kernel
theorem dX10_ordered_1 : decode cX10_ordered 1 = .ok (.iload_n 1, 1) := by decide +kernel
theorem dX10_ordered_2 : decode cX10_ordered 2 = .ok (.invokevirtual 110, 3) := by decide +kernel
theorem dX10_ordered_5 : decode cX10_ordered 5 = .ok (.ifCond .eq 30, 3) := by decide +kernel
theorem dX10_ordered_8 : decode cX10_ordered 8 = .ok (.iload_n 2, 1) := by decide +kernel
theorem dX10_ordered_9 : decode cX10_ordered 9 = .ok (.iconst 0, 1) := by decide +kernel
theorem dX10_ordered_10 : decode cX10_ordered 10 = .ok (.iconst 5, 1) := by decide +kernel
theorem dX10_ordered_11 : decode cX10_ordered 11 = .ok (.invokestatic 41, 3) := by decide +kernel
theorem dX10_ordered_14 : decode cX10_ordered 14 = .ok (.ifCond .eq 21, 3) := by decide +kernel
theorem dX10_ordered_17 : decode cX10_ordered 17 = .ok (.aload_n 0, 1) := by decide +kernel
theorem dX10_ordered_18 : decode cX10_ordered 18 = .ok (.getfield 9, 3) := by decide +kernel
theorem dX10_ordered_21 : decode cX10_ordered 21 = .ok (.sipush 369, 3) := by decide +kernel
theorem dX10_ordered_24 : decode cX10_ordered 24 = .ok (.bipush 20, 2) := by decide +kernel
theorem dX10_ordered_26 : decode cX10_ordered 26 = .ok (.iload_n 2, 1) := by decide +kernel
theorem dX10_ordered_27 : decode cX10_ordered 27 = .ok (.imul, 1) := by decide +kernel
theorem dX10_ordered_28 : decode cX10_ordered 28 = .ok (.iadd, 1) := by decide +kernel
theorem dX10_ordered_29 : decode cX10_ordered 29 = .ok (.iload_n 1, 1) := by decide +kernel
theorem dX10_ordered_30 : decode cX10_ordered 30 = .ok (.iadd, 1) := by decide +kernel
theorem dX10_ordered_31 : decode cX10_ordered 31 = .ok (.iaload, 1) := by decide +kernel
theorem dX10_ordered_32 : decode cX10_ordered 32 = .ok (.goto 9, 3) := by decide +kernel
theorem dX10_ordered_35 : decode cX10_ordered 35 = .ok (.aload_n 0, 1) := by decide +kernel
theorem dX10_ordered_36 : decode cX10_ordered 36 = .ok (.ldc 45, 2) := by decide +kernel
theorem dX10_ordered_38 : decode cX10_ordered 38 = .ok (.invokevirtual 46, 3) := by decide +kernel
theorem dX10_ordered_41 : decode cX10_ordered 41 = .ok (.ireturn, 1) := by decide +kernel
theorem dX10_costs_0 : decode cX10_costs 0 = .ok (.aload_n 0, 1) := by decide +kernel
theorem dX10_costs_1 : decode cX10_costs 1 = .ok (.iload_n 1, 1) := by decide +kernel
theorem dX10_costs_2 : decode cX10_costs 2 = .ok (.invokevirtual 51, 3) := by decide +kernel
theorem dX10_costs_5 : decode cX10_costs 5 = .ok (.ifCond .ne 10, 3) := by decide +kernel
theorem dX10_costs_8 : decode cX10_costs 8 = .ok (.aload_n 0, 1) := by decide +kernel
theorem dX10_costs_9 : decode cX10_costs 9 = .ok (.ldc 45, 2) := by decide +kernel
theorem dX10_costs_11 : decode cX10_costs 11 = .ok (.invokevirtual 46, 3) := by decide +kernel
theorem dX10_costs_14 : decode cX10_costs 14 = .ok (.ireturn, 1) := by decide +kernel
theorem dX10_costs_15 : decode cX10_costs 15 = .ok (.iconst 0, 1) := by decide +kernel
theorem dX10_costs_16 : decode cX10_costs 16 = .ok (.istore_n 2, 1) := by decide +kernel
theorem dX10_costs_17 : decode cX10_costs 17 = .ok (.iconst 0, 1) := by decide +kernel
theorem dX10_costs_18 : decode cX10_costs 18 = .ok (.istore_n 3, 1) := by decide +kernel
theorem dX10_costs_19 : decode cX10_costs 19 = .ok (.iload_n 3, 1) := by decide +kernel
theorem dX10_costs_20 : decode cX10_costs 20 = .ok (.aload_n 0, 1) := by decide +kernel
theorem dX10_costs_21 : decode cX10_costs 21 = .ok (.getfield 9, 3) := by decide +kernel
theorem dX10_costs_24 : decode cX10_costs 24 = .ok (.iconst 4, 1) := by decide +kernel
theorem dX10_costs_25 : decode cX10_costs 25 = .ok (.iaload, 1) := by decide +kernel
theorem dX10_costs_26 : decode cX10_costs 26 = .ok (.if_icmp .ge 71, 3) := by decide +kernel
theorem dX10_costs_29 : decode cX10_costs 29 = .ok (.aload_n 0, 1) := by decide +kernel
theorem dX10_costs_30 : decode cX10_costs 30 = .ok (.getfield 9, 3) := by decide +kernel
theorem dX10_costs_33 : decode cX10_costs 33 = .ok (.sipush 469, 3) := by decide +kernel
theorem dX10_costs_36 : decode cX10_costs 36 = .ok (.iload_n 3, 1) := by decide +kernel
theorem dX10_costs_37 : decode cX10_costs 37 = .ok (.iadd, 1) := by decide +kernel
theorem dX10_costs_38 : decode cX10_costs 38 = .ok (.iaload, 1) := by decide +kernel
theorem dX10_costs_39 : decode cX10_costs 39 = .ok (.iconst 2, 1) := by decide +kernel
theorem dX10_costs_40 : decode cX10_costs 40 = .ok (.if_icmp .ne 16, 3) := by decide +kernel
theorem dX10_costs_43 : decode cX10_costs 43 = .ok (.aload_n 0, 1) := by decide +kernel
theorem dX10_costs_44 : decode cX10_costs 44 = .ok (.getfield 9, 3) := by decide +kernel
theorem dX10_costs_47 : decode cX10_costs 47 = .ok (.sipush 389, 3) := by decide +kernel
theorem dX10_costs_50 : decode cX10_costs 50 = .ok (.iload_n 3, 1) := by decide +kernel
theorem dX10_costs_51 : decode cX10_costs 51 = .ok (.iadd, 1) := by decide +kernel
theorem dX10_costs_52 : decode cX10_costs 52 = .ok (.iaload, 1) := by decide +kernel
theorem dX10_costs_53 : decode cX10_costs 53 = .ok (.goto 13, 3) := by decide +kernel
theorem dX10_costs_56 : decode cX10_costs 56 = .ok (.aload_n 0, 1) := by decide +kernel
theorem dX10_costs_57 : decode cX10_costs 57 = .ok (.getfield 9, 3) := by decide +kernel
theorem dX10_costs_60 : decode cX10_costs 60 = .ok (.sipush 409, 3) := by decide +kernel
theorem dX10_costs_63 : decode cX10_costs 63 = .ok (.iload_n 3, 1) := by decide +kernel
theorem dX10_costs_64 : decode cX10_costs 64 = .ok (.iadd, 1) := by decide +kernel
theorem dX10_costs_65 : decode cX10_costs 65 = .ok (.iaload, 1) := by decide +kernel
theorem dX10_costs_66 : decode cX10_costs 66 = .ok (.istore 4, 2) := by decide +kernel
theorem dX10_costs_68 : decode cX10_costs 68 = .ok (.iload_n 2, 1) := by decide +kernel
theorem dX10_costs_69 : decode cX10_costs 69 = .ok (.iload 4, 2) := by decide +kernel
theorem dX10_costs_71 : decode cX10_costs 71 = .ok (.iload_n 1, 1) := by decide +kernel
theorem dX10_costs_72 : decode cX10_costs 72 = .ok (.if_icmp .ne 16, 3) := by decide +kernel
theorem dX10_costs_75 : decode cX10_costs 75 = .ok (.aload_n 0, 1) := by decide +kernel
theorem dX10_costs_76 : decode cX10_costs 76 = .ok (.getfield 9, 3) := by decide +kernel
theorem dX10_costs_79 : decode cX10_costs 79 = .ok (.sipush 449, 3) := by decide +kernel
theorem dX10_costs_82 : decode cX10_costs 82 = .ok (.iload_n 3, 1) := by decide +kernel
theorem dX10_costs_83 : decode cX10_costs 83 = .ok (.iadd, 1) := by decide +kernel
theorem dX10_costs_84 : decode cX10_costs 84 = .ok (.iaload, 1) := by decide +kernel
theorem dX10_costs_85 : decode cX10_costs 85 = .ok (.goto 4, 3) := by decide +kernel
theorem dX10_costs_88 : decode cX10_costs 88 = .ok (.iconst 0, 1) := by decide +kernel
theorem dX10_costs_89 : decode cX10_costs 89 = .ok (.iadd, 1) := by decide +kernel
theorem dX10_costs_90 : decode cX10_costs 90 = .ok (.istore_n 2, 1) := by decide +kernel
theorem dX10_costs_91 : decode cX10_costs 91 = .ok (.iinc 3 1, 3) := by decide +kernel
theorem dX10_costs_94 : decode cX10_costs 94 = .ok (.goto (-75), 3) := by decide +kernel
theorem dX10_costs_97 : decode cX10_costs 97 = .ok (.iload_n 2, 1) := by decide +kernel
theorem dX10_costs_98 : decode cX10_costs 98 = .ok (.ireturn, 1) := by decide +kernel
theorem dX10_set_0 : decode cX10_set 0 = .ok (.iload_n 1, 1) := by decide +kernel
theorem dX10_set_1 : decode cX10_set 1 = .ok (.iconst 0, 1) := by decide +kernel
theorem dX10_set_2 : decode cX10_set 2 = .ok (.iconst 1, 1) := by decide +kernel
theorem dX10_set_3 : decode cX10_set 3 = .ok (.invokestatic 41, 3) := by decide +kernel
theorem dX10_set_6 : decode cX10_set 6 = .ok (.ifCond .eq 31, 3) := by decide +kernel
theorem dX10_set_9 : decode cX10_set 9 = .ok (.iload_n 2, 1) := by decide +kernel
end
section
theorem dX10_set_10 : decode cX10_set 10 = .ok (.iload_n 1, 1) := by decide +kernel
theorem dX10_set_11 : decode cX10_set 11 = .ok (.ifCond .ne 7, 3) := by decide +kernel
theorem dX10_set_14 : decode cX10_set 14 = .ok (.iconst 0, 1) := by decide +kernel
theorem dX10_set_15 : decode cX10_set 15 = .ok (.goto 4, 3) := by decide +kernel
theorem dX10_set_18 : decode cX10_set 18 = .ok (.iconst 1, 1) := by decide +kernel
theorem dX10_set_19 : decode cX10_set 19 = .ok (.iload_n 1, 1) := by decide +kernel
theorem dX10_set_20 : decode cX10_set 20 = .ok (.ifCond .ne 9, 3) := by decide +kernel
theorem dX10_set_23 : decode cX10_set 23 = .ok (.sipush 999, 3) := by decide +kernel
theorem dX10_set_26 : decode cX10_set 26 = .ok (.goto 5, 3) := by decide +kernel
theorem dX10_set_29 : decode cX10_set 29 = .ok (.bipush 20, 2) := by decide +kernel
theorem dX10_set_31 : decode cX10_set 31 = .ok (.invokestatic 41, 3) := by decide +kernel
theorem dX10_set_34 : decode cX10_set 34 = .ok (.ifCond .ne 10, 3) := by decide +kernel
theorem dX10_set_37 : decode cX10_set 37 = .ok (.aload_n 0, 1) := by decide +kernel
theorem dX10_set_38 : decode cX10_set 38 = .ok (.ldc 45, 2) := by decide +kernel
theorem dX10_set_40 : decode cX10_set 40 = .ok (.invokevirtual 46, 3) := by decide +kernel
theorem dX10_set_43 : decode cX10_set 43 = .ok (.ireturn, 1) := by decide +kernel
theorem dX10_set_44 : decode cX10_set 44 = .ok (.aload_n 0, 1) := by decide +kernel
theorem dX10_set_45 : decode cX10_set 45 = .ok (.getfield 9, 3) := by decide +kernel
theorem dX10_set_48 : decode cX10_set 48 = .ok (.iconst 5, 1) := by decide +kernel
theorem dX10_set_49 : decode cX10_set 49 = .ok (.iload_n 1, 1) := by decide +kernel
theorem dX10_set_50 : decode cX10_set 50 = .ok (.iadd, 1) := by decide +kernel
theorem dX10_set_51 : decode cX10_set 51 = .ok (.iaload, 1) := by decide +kernel
theorem dX10_set_52 : decode cX10_set 52 = .ok (.istore_n 3, 1) := by decide +kernel
theorem dX10_set_53 : decode cX10_set 53 = .ok (.aload_n 0, 1) := by decide +kernel
theorem dX10_set_54 : decode cX10_set 54 = .ok (.getfield 9, 3) := by decide +kernel
theorem dX10_set_57 : decode cX10_set 57 = .ok (.iconst 5, 1) := by decide +kernel
theorem dX10_set_58 : decode cX10_set 58 = .ok (.iload_n 1, 1) := by decide +kernel
theorem dX10_set_59 : decode cX10_set 59 = .ok (.iadd, 1) := by decide +kernel
theorem dX10_set_60 : decode cX10_set 60 = .ok (.iload_n 2, 1) := by decide +kernel
theorem dX10_set_61 : decode cX10_set 61 = .ok (.iastore, 1) := by decide +kernel
theorem dX10_set_62 : decode cX10_set 62 = .ok (.iload_n 3, 1) := by decide +kernel
theorem dX10_set_63 : decode cX10_set 63 = .ok (.ireturn, 1) := by decide +kernel
theorem dX10_list_0 : decode cX10_list 0 = .ok (.aload_n 0, 1) := by decide +kernel
theorem dX10_list_1 : decode cX10_list 1 = .ok (.iload_n 1, 1) := by decide +kernel
theorem dX10_list_2 : decode cX10_list 2 = .ok (.invokevirtual 59, 3) := by decide +kernel
theorem dX10_list_5 : decode cX10_list 5 = .ok (.ifCond .eq 23, 3) := by decide +kernel
theorem dX10_list_8 : decode cX10_list 8 = .ok (.iload_n 2, 1) := by decide +kernel
theorem dX10_list_9 : decode cX10_list 9 = .ok (.iconst (-1), 1) := by decide +kernel
theorem dX10_list_10 : decode cX10_list 10 = .ok (.if_icmp .eq 25, 3) := by decide +kernel
theorem dX10_list_13 : decode cX10_list 13 = .ok (.aload_n 0, 1) := by decide +kernel
theorem dX10_list_14 : decode cX10_list 14 = .ok (.iload_n 2, 1) := by decide +kernel
theorem dX10_list_15 : decode cX10_list 15 = .ok (.invokevirtual 51, 3) := by decide +kernel
theorem dX10_list_18 : decode cX10_list 18 = .ok (.ifCond .eq 10, 3) := by decide +kernel
theorem dX10_list_21 : decode cX10_list 21 = .ok (.iload_n 3, 1) := by decide +kernel
theorem dX10_list_22 : decode cX10_list 22 = .ok (.invokestatic 114, 3) := by decide +kernel
theorem dX10_list_25 : decode cX10_list 25 = .ok (.ifCond .ne 10, 3) := by decide +kernel
theorem dX10_list_28 : decode cX10_list 28 = .ok (.aload_n 0, 1) := by decide +kernel
theorem dX10_list_29 : decode cX10_list 29 = .ok (.ldc 45, 2) := by decide +kernel
theorem dX10_list_31 : decode cX10_list 31 = .ok (.invokevirtual 46, 3) := by decide +kernel
theorem dX10_list_34 : decode cX10_list 34 = .ok (.ireturn, 1) := by decide +kernel
theorem dX10_list_35 : decode cX10_list 35 = .ok (.aload_n 0, 1) := by decide +kernel
theorem dX10_list_36 : decode cX10_list 36 = .ok (.getfield 9, 3) := by decide +kernel
theorem dX10_list_39 : decode cX10_list 39 = .ok (.bipush 99, 2) := by decide +kernel
theorem dX10_list_41 : decode cX10_list 41 = .ok (.iload_n 1, 1) := by decide +kernel
theorem dX10_list_42 : decode cX10_list 42 = .ok (.iadd, 1) := by decide +kernel
theorem dX10_list_43 : decode cX10_list 43 = .ok (.iaload, 1) := by decide +kernel
theorem dX10_list_44 : decode cX10_list 44 = .ok (.istore 4, 2) := by decide +kernel
theorem dX10_list_46 : decode cX10_list 46 = .ok (.aload_n 0, 1) := by decide +kernel
theorem dX10_list_47 : decode cX10_list 47 = .ok (.getfield 9, 3) := by decide +kernel
theorem dX10_list_50 : decode cX10_list 50 = .ok (.bipush 99, 2) := by decide +kernel
theorem dX10_list_52 : decode cX10_list 52 = .ok (.iload_n 1, 1) := by decide +kernel
theorem dX10_list_53 : decode cX10_list 53 = .ok (.iadd, 1) := by decide +kernel
theorem dX10_list_54 : decode cX10_list 54 = .ok (.iload_n 2, 1) := by decide +kernel
theorem dX10_list_55 : decode cX10_list 55 = .ok (.iastore, 1) := by decide +kernel
theorem dX10_list_56 : decode cX10_list 56 = .ok (.aload_n 0, 1) := by decide +kernel
theorem dX10_list_57 : decode cX10_list 57 = .ok (.getfield 9, 3) := by decide +kernel
theorem dX10_list_60 : decode cX10_list 60 = .ok (.bipush 109, 2) := by decide +kernel
theorem dX10_list_62 : decode cX10_list 62 = .ok (.iload_n 1, 1) := by decide +kernel
theorem dX10_list_63 : decode cX10_list 63 = .ok (.iadd, 1) := by decide +kernel
theorem dX10_list_64 : decode cX10_list 64 = .ok (.iload_n 2, 1) := by decide +kernel
theorem dX10_list_65 : decode cX10_list 65 = .ok (.ifCond .ge 7, 3) := by decide +kernel
theorem dX10_list_68 : decode cX10_list 68 = .ok (.iconst 0, 1) := by decide +kernel
theorem dX10_list_69 : decode cX10_list 69 = .ok (.goto 4, 3) := by decide +kernel
theorem dX10_list_72 : decode cX10_list 72 = .ok (.iload_n 3, 1) := by decide +kernel
theorem dX10_list_73 : decode cX10_list 73 = .ok (.iastore, 1) := by decide +kernel
theorem dX10_list_74 : decode cX10_list 74 = .ok (.iload 4, 2) := by decide +kernel
theorem dX10_list_76 : decode cX10_list 76 = .ok (.ireturn, 1) := by decide +kernel
theorem dX10_earns_0 : decode cX10_earns 0 = .ok (.aload_n 0, 1) := by decide +kernel
theorem dX10_earns_1 : decode cX10_earns 1 = .ok (.iload_n 1, 1) := by decide +kernel
theorem dX10_earns_2 : decode cX10_earns 2 = .ok (.invokevirtual 59, 3) := by decide +kernel
theorem dX10_earns_5 : decode cX10_earns 5 = .ok (.ifCond .eq 14, 3) := by decide +kernel
theorem dX10_earns_8 : decode cX10_earns 8 = .ok (.iload_n 2, 1) := by decide +kernel
theorem dX10_earns_9 : decode cX10_earns 9 = .ok (.iconst 0, 1) := by decide +kernel
theorem dX10_earns_10 : decode cX10_earns 10 = .ok (.sipush 999, 3) := by decide +kernel
theorem dX10_earns_13 : decode cX10_earns 13 = .ok (.invokestatic 41, 3) := by decide +kernel
theorem dX10_earns_16 : decode cX10_earns 16 = .ok (.ifCond .ne 10, 3) := by decide +kernel
theorem dX10_earns_19 : decode cX10_earns 19 = .ok (.aload_n 0, 1) := by decide +kernel
theorem dX10_earns_20 : decode cX10_earns 20 = .ok (.ldc 45, 2) := by decide +kernel
theorem dX10_earns_22 : decode cX10_earns 22 = .ok (.invokevirtual 46, 3) := by decide +kernel
theorem dX10_earns_25 : decode cX10_earns 25 = .ok (.ireturn, 1) := by decide +kernel
theorem dX10_earns_26 : decode cX10_earns 26 = .ok (.aload_n 0, 1) := by decide +kernel
theorem dX10_earns_27 : decode cX10_earns 27 = .ok (.getfield 9, 3) := by decide +kernel
theorem dX10_earns_30 : decode cX10_earns 30 = .ok (.bipush 119, 2) := by decide +kernel
theorem dX10_earns_32 : decode cX10_earns 32 = .ok (.iload_n 1, 1) := by decide +kernel
theorem dX10_earns_33 : decode cX10_earns 33 = .ok (.iadd, 1) := by decide +kernel
theorem dX10_earns_34 : decode cX10_earns 34 = .ok (.iaload, 1) := by decide +kernel
theorem dX10_earns_35 : decode cX10_earns 35 = .ok (.istore_n 3, 1) := by decide +kernel
theorem dX10_earns_36 : decode cX10_earns 36 = .ok (.aload_n 0, 1) := by decide +kernel
theorem dX10_earns_37 : decode cX10_earns 37 = .ok (.getfield 9, 3) := by decide +kernel
theorem dX10_earns_40 : decode cX10_earns 40 = .ok (.bipush 119, 2) := by decide +kernel
theorem dX10_earns_42 : decode cX10_earns 42 = .ok (.iload_n 1, 1) := by decide +kernel
theorem dX10_earns_43 : decode cX10_earns 43 = .ok (.iadd, 1) := by decide +kernel
theorem dX10_earns_44 : decode cX10_earns 44 = .ok (.iload_n 2, 1) := by decide +kernel
theorem dX10_earns_45 : decode cX10_earns 45 = .ok (.iastore, 1) := by decide +kernel
theorem dX10_earns_46 : decode cX10_earns 46 = .ok (.iload_n 3, 1) := by decide +kernel
theorem dX10_earns_47 : decode cX10_earns 47 = .ok (.ireturn, 1) := by decide +kernel
theorem dX10_price_0 : decode cX10_price 0 = .ok (.iload_n 1, 1) := by decide +kernel
theorem dX10_price_1 : decode cX10_price 1 = .ok (.invokestatic 114, 3) := by decide +kernel
theorem dX10_price_4 : decode cX10_price 4 = .ok (.ifCond .eq 13, 3) := by decide +kernel
theorem dX10_price_7 : decode cX10_price 7 = .ok (.iload_n 2, 1) := by decide +kernel
theorem dX10_price_8 : decode cX10_price 8 = .ok (.iconst 0, 1) := by decide +kernel
theorem dX10_price_9 : decode cX10_price 9 = .ok (.bipush 99, 2) := by decide +kernel
theorem dX10_price_11 : decode cX10_price 11 = .ok (.invokestatic 41, 3) := by decide +kernel
theorem dX10_price_14 : decode cX10_price 14 = .ok (.ifCond .ne 10, 3) := by decide +kernel
theorem dX10_price_17 : decode cX10_price 17 = .ok (.aload_n 0, 1) := by decide +kernel
theorem dX10_price_18 : decode cX10_price 18 = .ok (.ldc 45, 2) := by decide +kernel
theorem dX10_price_20 : decode cX10_price 20 = .ok (.invokevirtual 46, 3) := by decide +kernel
theorem dX10_price_23 : decode cX10_price 23 = .ok (.ireturn, 1) := by decide +kernel
theorem dX10_price_24 : decode cX10_price 24 = .ok (.aload_n 0, 1) := by decide +kernel
theorem dX10_price_25 : decode cX10_price 25 = .ok (.getfield 9, 3) := by decide +kernel
theorem dX10_price_28 : decode cX10_price 28 = .ok (.sipush 489, 3) := by decide +kernel
theorem dX10_price_31 : decode cX10_price 31 = .ok (.iload_n 1, 1) := by decide +kernel
theorem dX10_price_32 : decode cX10_price 32 = .ok (.iadd, 1) := by decide +kernel
theorem dX10_price_33 : decode cX10_price 33 = .ok (.iaload, 1) := by decide +kernel
theorem dX10_price_34 : decode cX10_price 34 = .ok (.istore_n 3, 1) := by decide +kernel
theorem dX10_price_35 : decode cX10_price 35 = .ok (.aload_n 0, 1) := by decide +kernel
theorem dX10_price_36 : decode cX10_price 36 = .ok (.getfield 9, 3) := by decide +kernel
theorem dX10_price_39 : decode cX10_price 39 = .ok (.sipush 489, 3) := by decide +kernel
theorem dX10_price_42 : decode cX10_price 42 = .ok (.iload_n 1, 1) := by decide +kernel
theorem dX10_price_43 : decode cX10_price 43 = .ok (.iadd, 1) := by decide +kernel
theorem dX10_price_44 : decode cX10_price 44 = .ok (.iload_n 2, 1) := by decide +kernel
theorem dX10_price_45 : decode cX10_price 45 = .ok (.iastore, 1) := by decide +kernel
theorem dX10_price_46 : decode cX10_price 46 = .ok (.iload_n 3, 1) := by decide +kernel
theorem dX10_price_47 : decode cX10_price 47 = .ok (.ireturn, 1) := by decide +kernel
theorem dX10_listOf_0 : decode cX10_listOf 0 = .ok (.aload_n 0, 1) := by decide +kernel
theorem dX10_listOf_1 : decode cX10_listOf 1 = .ok (.getfield 9, 3) := by decide +kernel
theorem dX10_listOf_4 : decode cX10_listOf 4 = .ok (.bipush 99, 2) := by decide +kernel
theorem dX10_listOf_6 : decode cX10_listOf 6 = .ok (.iload_n 1, 1) := by decide +kernel
theorem dX10_listOf_7 : decode cX10_listOf 7 = .ok (.iadd, 1) := by decide +kernel
theorem dX10_listOf_8 : decode cX10_listOf 8 = .ok (.iaload, 1) := by decide +kernel
theorem dX10_listOf_9 : decode cX10_listOf 9 = .ok (.ifCond .lt 28, 3) := by decide +kernel
theorem dX10_listOf_12 : decode cX10_listOf 12 = .ok (.aload_n 0, 1) := by decide +kernel
theorem dX10_listOf_13 : decode cX10_listOf 13 = .ok (.getfield 9, 3) := by decide +kernel
theorem dX10_listOf_16 : decode cX10_listOf 16 = .ok (.bipush 109, 2) := by decide +kernel
theorem dX10_listOf_18 : decode cX10_listOf 18 = .ok (.iload_n 1, 1) := by decide +kernel
theorem dX10_listOf_19 : decode cX10_listOf 19 = .ok (.iadd, 1) := by decide +kernel
theorem dX10_listOf_20 : decode cX10_listOf 20 = .ok (.iaload, 1) := by decide +kernel
theorem dX10_listOf_21 : decode cX10_listOf 21 = .ok (.iload_n 2, 1) := by decide +kernel
theorem dX10_listOf_22 : decode cX10_listOf 22 = .ok (.if_icmp .gt 15, 3) := by decide +kernel
theorem dX10_listOf_25 : decode cX10_listOf 25 = .ok (.aload_n 0, 1) := by decide +kernel
theorem dX10_listOf_26 : decode cX10_listOf 26 = .ok (.getfield 9, 3) := by decide +kernel
theorem dX10_listOf_29 : decode cX10_listOf 29 = .ok (.bipush 99, 2) := by decide +kernel
theorem dX10_listOf_31 : decode cX10_listOf 31 = .ok (.iload_n 1, 1) := by decide +kernel
theorem dX10_listOf_32 : decode cX10_listOf 32 = .ok (.iadd, 1) := by decide +kernel
theorem dX10_listOf_33 : decode cX10_listOf 33 = .ok (.iaload, 1) := by decide +kernel
theorem dX10_listOf_34 : decode cX10_listOf 34 = .ok (.goto 4, 3) := by decide +kernel
theorem dX10_listOf_37 : decode cX10_listOf 37 = .ok (.iconst (-1), 1) := by decide +kernel
theorem dX10_listOf_38 : decode cX10_listOf 38 = .ok (.ireturn, 1) := by decide +kernel
theorem dX10_isWifeOf_0 : decode cX10_isWifeOf 0 = .ok (.aload_n 0, 1) := by decide +kernel
theorem dX10_isWifeOf_1 : decode cX10_isWifeOf 1 = .ok (.getfield 9, 3) := by decide +kernel
theorem dX10_isWifeOf_4 : decode cX10_isWifeOf 4 = .ok (.bipush 49, 2) := by decide +kernel
theorem dX10_isWifeOf_6 : decode cX10_isWifeOf 6 = .ok (.iload_n 1, 1) := by decide +kernel
theorem dX10_isWifeOf_7 : decode cX10_isWifeOf 7 = .ok (.iadd, 1) := by decide +kernel
theorem dX10_isWifeOf_8 : decode cX10_isWifeOf 8 = .ok (.iaload, 1) := by decide +kernel
theorem dX10_isWifeOf_9 : decode cX10_isWifeOf 9 = .ok (.iconst 1, 1) := by decide +kernel
theorem dX10_isWifeOf_10 : decode cX10_isWifeOf 10 = .ok (.if_icmp .ne 20, 3) := by decide +kernel
theorem dX10_isWifeOf_13 : decode cX10_isWifeOf 13 = .ok (.aload_n 0, 1) := by decide +kernel
theorem dX10_isWifeOf_14 : decode cX10_isWifeOf 14 = .ok (.getfield 9, 3) := by decide +kernel
theorem dX10_isWifeOf_17 : decode cX10_isWifeOf 17 = .ok (.bipush 79, 2) := by decide +kernel
theorem dX10_isWifeOf_19 : decode cX10_isWifeOf 19 = .ok (.iload_n 1, 1) := by decide +kernel
theorem dX10_isWifeOf_20 : decode cX10_isWifeOf 20 = .ok (.iadd, 1) := by decide +kernel
theorem dX10_isWifeOf_21 : decode cX10_isWifeOf 21 = .ok (.iaload, 1) := by decide +kernel
theorem dX10_isWifeOf_22 : decode cX10_isWifeOf 22 = .ok (.iload_n 2, 1) := by decide +kernel
theorem dX10_isWifeOf_23 : decode cX10_isWifeOf 23 = .ok (.if_icmp .ne 7, 3) := by decide +kernel
theorem dX10_isWifeOf_26 : decode cX10_isWifeOf 26 = .ok (.iconst 1, 1) := by decide +kernel
theorem dX10_isWifeOf_27 : decode cX10_isWifeOf 27 = .ok (.goto 4, 3) := by decide +kernel
theorem dX10_isWifeOf_30 : decode cX10_isWifeOf 30 = .ok (.iconst 0, 1) := by decide +kernel
theorem dX10_isWifeOf_31 : decode cX10_isWifeOf 31 = .ok (.ireturn, 1) := by decide +kernel
theorem dX10_reliefOf_0 : decode cX10_reliefOf 0 = .ok (.aload_n 0, 1) := by decide +kernel
theorem dX10_reliefOf_1 : decode cX10_reliefOf 1 = .ok (.iload_n 1, 1) := by decide +kernel
theorem dX10_reliefOf_2 : decode cX10_reliefOf 2 = .ok (.iload_n 2, 1) := by decide +kernel
theorem dX10_reliefOf_3 : decode cX10_reliefOf 3 = .ok (.invokevirtual 117, 3) := by decide +kernel
theorem dX10_reliefOf_6 : decode cX10_reliefOf 6 = .ok (.istore_n 3, 1) := by decide +kernel
theorem dX10_reliefOf_7 : decode cX10_reliefOf 7 = .ok (.aload_n 0, 1) := by decide +kernel
theorem dX10_reliefOf_8 : decode cX10_reliefOf 8 = .ok (.getfield 9, 3) := by decide +kernel
theorem dX10_reliefOf_11 : decode cX10_reliefOf 11 = .ok (.bipush 6, 2) := by decide +kernel
theorem dX10_reliefOf_13 : decode cX10_reliefOf 13 = .ok (.iaload, 1) := by decide +kernel
theorem dX10_reliefOf_14 : decode cX10_reliefOf 14 = .ok (.istore 4, 2) := by decide +kernel
theorem dX10_reliefOf_16 : decode cX10_reliefOf 16 = .ok (.iconst 0, 1) := by decide +kernel
theorem dX10_reliefOf_17 : decode cX10_reliefOf 17 = .ok (.istore 5, 2) := by decide +kernel
theorem dX10_reliefOf_19 : decode cX10_reliefOf 19 = .ok (.iload 5, 2) := by decide +kernel
theorem dX10_reliefOf_21 : decode cX10_reliefOf 21 = .ok (.aload_n 0, 1) := by decide +kernel
theorem dX10_reliefOf_22 : decode cX10_reliefOf 22 = .ok (.getfield 9, 3) := by decide +kernel
theorem dX10_reliefOf_25 : decode cX10_reliefOf 25 = .ok (.iconst 1, 1) := by decide +kernel
theorem dX10_reliefOf_26 : decode cX10_reliefOf 26 = .ok (.iaload, 1) := by decide +kernel
theorem dX10_reliefOf_27 : decode cX10_reliefOf 27 = .ok (.if_icmp .ge 69, 3) := by decide +kernel
theorem dX10_reliefOf_30 : decode cX10_reliefOf 30 = .ok (.aload_n 0, 1) := by decide +kernel
theorem dX10_reliefOf_31 : decode cX10_reliefOf 31 = .ok (.iload 5, 2) := by decide +kernel
theorem dX10_reliefOf_33 : decode cX10_reliefOf 33 = .ok (.iload_n 2, 1) := by decide +kernel
theorem dX10_reliefOf_34 : decode cX10_reliefOf 34 = .ok (.invokevirtual 117, 3) := by decide +kernel
theorem dX10_reliefOf_37 : decode cX10_reliefOf 37 = .ok (.iload_n 3, 1) := by decide +kernel
theorem dX10_reliefOf_38 : decode cX10_reliefOf 38 = .ok (.if_icmp .ne 7, 3) := by decide +kernel
theorem dX10_reliefOf_41 : decode cX10_reliefOf 41 = .ok (.iconst 1, 1) := by decide +kernel
theorem dX10_reliefOf_42 : decode cX10_reliefOf 42 = .ok (.goto 4, 3) := by decide +kernel
theorem dX10_reliefOf_45 : decode cX10_reliefOf 45 = .ok (.iconst 0, 1) := by decide +kernel
theorem dX10_reliefOf_46 : decode cX10_reliefOf 46 = .ok (.istore 6, 2) := by decide +kernel
theorem dX10_reliefOf_48 : decode cX10_reliefOf 48 = .ok (.iload 4, 2) := by decide +kernel
theorem dX10_reliefOf_50 : decode cX10_reliefOf 50 = .ok (.iload 6, 2) := by decide +kernel
theorem dX10_reliefOf_52 : decode cX10_reliefOf 52 = .ok (.ifCond .eq 17, 3) := by decide +kernel
theorem dX10_reliefOf_55 : decode cX10_reliefOf 55 = .ok (.aload_n 0, 1) := by decide +kernel
theorem dX10_reliefOf_56 : decode cX10_reliefOf 56 = .ok (.iload 5, 2) := by decide +kernel
theorem dX10_reliefOf_58 : decode cX10_reliefOf 58 = .ok (.iload_n 1, 1) := by decide +kernel
theorem dX10_reliefOf_59 : decode cX10_reliefOf 59 = .ok (.invokevirtual 120, 3) := by decide +kernel
theorem dX10_reliefOf_62 : decode cX10_reliefOf 62 = .ok (.ifCond .eq 7, 3) := by decide +kernel
theorem dX10_reliefOf_65 : decode cX10_reliefOf 65 = .ok (.iconst 2, 1) := by decide +kernel
theorem dX10_reliefOf_66 : decode cX10_reliefOf 66 = .ok (.goto 4, 3) := by decide +kernel
theorem dX10_reliefOf_69 : decode cX10_reliefOf 69 = .ok (.iconst 0, 1) := by decide +kernel
theorem dX10_reliefOf_70 : decode cX10_reliefOf 70 = .ok (.iadd, 1) := by decide +kernel
theorem dX10_reliefOf_71 : decode cX10_reliefOf 71 = .ok (.istore 4, 2) := by decide +kernel
theorem dX10_reliefOf_73 : decode cX10_reliefOf 73 = .ok (.iload 6, 2) := by decide +kernel
theorem dX10_reliefOf_75 : decode cX10_reliefOf 75 = .ok (.ifCond .eq 15, 3) := by decide +kernel
theorem dX10_reliefOf_78 : decode cX10_reliefOf 78 = .ok (.aload_n 0, 1) := by decide +kernel
theorem dX10_reliefOf_79 : decode cX10_reliefOf 79 = .ok (.iload_n 1, 1) := by decide +kernel
theorem dX10_reliefOf_80 : decode cX10_reliefOf 80 = .ok (.iload 5, 2) := by decide +kernel
theorem dX10_reliefOf_82 : decode cX10_reliefOf 82 = .ok (.invokevirtual 120, 3) := by decide +kernel
theorem dX10_reliefOf_85 : decode cX10_reliefOf 85 = .ok (.ifCond .eq 5, 3) := by decide +kernel
theorem dX10_reliefOf_88 : decode cX10_reliefOf 88 = .ok (.iconst 0, 1) := by decide +kernel
theorem dX10_reliefOf_89 : decode cX10_reliefOf 89 = .ok (.ireturn, 1) := by decide +kernel
theorem dX10_reliefOf_90 : decode cX10_reliefOf 90 = .ok (.iinc 5 1, 3) := by decide +kernel
theorem dX10_reliefOf_93 : decode cX10_reliefOf 93 = .ok (.goto (-74), 3) := by decide +kernel
theorem dX10_reliefOf_96 : decode cX10_reliefOf 96 = .ok (.iconst 0, 1) := by decide +kernel
theorem dX10_reliefOf_97 : decode cX10_reliefOf 97 = .ok (.iload 4, 2) := by decide +kernel
theorem dX10_reliefOf_99 : decode cX10_reliefOf 99 = .ok (.aload_n 0, 1) := by decide +kernel
theorem dX10_reliefOf_100 : decode cX10_reliefOf 100 = .ok (.getfield 9, 3) := by decide +kernel
theorem dX10_reliefOf_103 : decode cX10_reliefOf 103 = .ok (.sipush 489, 3) := by decide +kernel
theorem dX10_reliefOf_106 : decode cX10_reliefOf 106 = .ok (.iload_n 2, 1) := by decide +kernel
theorem dX10_reliefOf_107 : decode cX10_reliefOf 107 = .ok (.iadd, 1) := by decide +kernel
theorem dX10_reliefOf_108 : decode cX10_reliefOf 108 = .ok (.iaload, 1) := by decide +kernel
theorem dX10_reliefOf_109 : decode cX10_reliefOf 109 = .ok (.imul, 1) := by decide +kernel
theorem dX10_reliefOf_110 : decode cX10_reliefOf 110 = .ok (.aload_n 0, 1) := by decide +kernel
theorem dX10_reliefOf_111 : decode cX10_reliefOf 111 = .ok (.getfield 9, 3) := by decide +kernel
theorem dX10_reliefOf_114 : decode cX10_reliefOf 114 = .ok (.bipush 119, 2) := by decide +kernel
theorem dX10_reliefOf_116 : decode cX10_reliefOf 116 = .ok (.iload_n 1, 1) := by decide +kernel
theorem dX10_reliefOf_117 : decode cX10_reliefOf 117 = .ok (.iadd, 1) := by decide +kernel
theorem dX10_reliefOf_118 : decode cX10_reliefOf 118 = .ok (.iaload, 1) := by decide +kernel
theorem dX10_reliefOf_119 : decode cX10_reliefOf 119 = .ok (.isub, 1) := by decide +kernel
theorem dX10_reliefOf_120 : decode cX10_reliefOf 120 = .ok (.invokestatic 104, 3) := by decide +kernel
theorem dX10_reliefOf_123 : decode cX10_reliefOf 123 = .ok (.ireturn, 1) := by decide +kernel
theorem dX10_relief_0 : decode cX10_relief 0 = .ok (.aload_n 0, 1) := by decide +kernel
theorem dX10_relief_1 : decode cX10_relief 1 = .ok (.iload_n 1, 1) := by decide +kernel
theorem dX10_relief_2 : decode cX10_relief 2 = .ok (.invokevirtual 59, 3) := by decide +kernel
theorem dX10_relief_5 : decode cX10_relief 5 = .ok (.ifCond .eq 10, 3) := by decide +kernel
theorem dX10_relief_8 : decode cX10_relief 8 = .ok (.iload_n 2, 1) := by decide +kernel
theorem dX10_relief_9 : decode cX10_relief 9 = .ok (.invokestatic 114, 3) := by decide +kernel
theorem dX10_relief_12 : decode cX10_relief 12 = .ok (.ifCond .ne 10, 3) := by decide +kernel
theorem dX10_relief_15 : decode cX10_relief 15 = .ok (.aload_n 0, 1) := by decide +kernel
theorem dX10_relief_16 : decode cX10_relief 16 = .ok (.ldc 45, 2) := by decide +kernel
theorem dX10_relief_18 : decode cX10_relief 18 = .ok (.invokevirtual 46, 3) := by decide +kernel
theorem dX10_relief_21 : decode cX10_relief 21 = .ok (.ireturn, 1) := by decide +kernel
theorem dX10_relief_22 : decode cX10_relief 22 = .ok (.aload_n 0, 1) := by decide +kernel
theorem dX10_relief_23 : decode cX10_relief 23 = .ok (.iload_n 1, 1) := by decide +kernel
theorem dX10_relief_24 : decode cX10_relief 24 = .ok (.iload_n 2, 1) := by decide +kernel
theorem dX10_relief_25 : decode cX10_relief 25 = .ok (.invokevirtual 117, 3) := by decide +kernel
theorem dX10_relief_28 : decode cX10_relief 28 = .ok (.ifCond .ge 10, 3) := by decide +kernel
theorem dX10_relief_31 : decode cX10_relief 31 = .ok (.aload_n 0, 1) := by decide +kernel
theorem dX10_relief_32 : decode cX10_relief 32 = .ok (.ldc 72, 2) := by decide +kernel
theorem dX10_relief_34 : decode cX10_relief 34 = .ok (.invokevirtual 46, 3) := by decide +kernel
theorem dX10_relief_37 : decode cX10_relief 37 = .ok (.ireturn, 1) := by decide +kernel
theorem dX10_relief_38 : decode cX10_relief 38 = .ok (.aload_n 0, 1) := by decide +kernel
theorem dX10_relief_39 : decode cX10_relief 39 = .ok (.getfield 9, 3) := by decide +kernel
theorem dX10_relief_42 : decode cX10_relief 42 = .ok (.sipush 489, 3) := by decide +kernel
theorem dX10_relief_45 : decode cX10_relief 45 = .ok (.iload_n 2, 1) := by decide +kernel
theorem dX10_relief_46 : decode cX10_relief 46 = .ok (.iadd, 1) := by decide +kernel
theorem dX10_relief_47 : decode cX10_relief 47 = .ok (.iaload, 1) := by decide +kernel
theorem dX10_relief_48 : decode cX10_relief 48 = .ok (.ifCond .ne 12, 3) := by decide +kernel
theorem dX10_relief_51 : decode cX10_relief 51 = .ok (.aload_n 0, 1) := by decide +kernel
theorem dX10_relief_52 : decode cX10_relief 52 = .ok (.ldc 123, 2) := by decide +kernel
theorem dX10_relief_54 : decode cX10_relief 54 = .ok (.invokevirtual 46, 3) := by decide +kernel
theorem dX10_relief_57 : decode cX10_relief 57 = .ok (.goto 9, 3) := by decide +kernel
theorem dX10_relief_60 : decode cX10_relief 60 = .ok (.aload_n 0, 1) := by decide +kernel
theorem dX10_relief_61 : decode cX10_relief 61 = .ok (.iload_n 1, 1) := by decide +kernel
theorem dX10_relief_62 : decode cX10_relief 62 = .ok (.iload_n 2, 1) := by decide +kernel
theorem dX10_relief_63 : decode cX10_relief 63 = .ok (.invokevirtual 124, 3) := by decide +kernel
theorem dX10_relief_66 : decode cX10_relief 66 = .ok (.ireturn, 1) := by decide +kernel
theorem dX10_week_0 : decode cX10_week 0 = .ok (.aload_n 0, 1) := by decide +kernel
theorem dX10_week_1 : decode cX10_week 1 = .ok (.iload_n 1, 1) := by decide +kernel
theorem dX10_week_2 : decode cX10_week 2 = .ok (.invokevirtual 51, 3) := by decide +kernel
theorem dX10_week_5 : decode cX10_week 5 = .ok (.ifCond .eq 10, 3) := by decide +kernel
theorem dX10_week_8 : decode cX10_week 8 = .ok (.iload_n 2, 1) := by decide +kernel
theorem dX10_week_9 : decode cX10_week 9 = .ok (.invokestatic 114, 3) := by decide +kernel
theorem dX10_week_12 : decode cX10_week 12 = .ok (.ifCond .ne 10, 3) := by decide +kernel
theorem dX10_week_15 : decode cX10_week 15 = .ok (.aload_n 0, 1) := by decide +kernel
theorem dX10_week_16 : decode cX10_week 16 = .ok (.ldc 45, 2) := by decide +kernel
theorem dX10_week_18 : decode cX10_week 18 = .ok (.invokevirtual 46, 3) := by decide +kernel
theorem dX10_week_21 : decode cX10_week 21 = .ok (.ireturn, 1) := by decide +kernel
theorem dX10_week_22 : decode cX10_week 22 = .ok (.aload_n 0, 1) := by decide +kernel
theorem dX10_week_23 : decode cX10_week 23 = .ok (.getfield 9, 3) := by decide +kernel
theorem dX10_week_26 : decode cX10_week 26 = .ok (.sipush 489, 3) := by decide +kernel
theorem dX10_week_29 : decode cX10_week 29 = .ok (.iload_n 2, 1) := by decide +kernel
theorem dX10_week_30 : decode cX10_week 30 = .ok (.iadd, 1) := by decide +kernel
theorem dX10_week_31 : decode cX10_week 31 = .ok (.iaload, 1) := by decide +kernel
theorem dX10_week_32 : decode cX10_week 32 = .ok (.ifCond .ne 10, 3) := by decide +kernel
theorem dX10_week_35 : decode cX10_week 35 = .ok (.aload_n 0, 1) := by decide +kernel
theorem dX10_week_36 : decode cX10_week 36 = .ok (.ldc 123, 2) := by decide +kernel
theorem dX10_week_38 : decode cX10_week 38 = .ok (.invokevirtual 46, 3) := by decide +kernel
theorem dX10_week_41 : decode cX10_week 41 = .ok (.ireturn, 1) := by decide +kernel
theorem dX10_week_42 : decode cX10_week 42 = .ok (.iconst 0, 1) := by decide +kernel
theorem dX10_week_43 : decode cX10_week 43 = .ok (.istore_n 3, 1) := by decide +kernel
theorem dX10_week_44 : decode cX10_week 44 = .ok (.iconst 0, 1) := by decide +kernel
theorem dX10_week_45 : decode cX10_week 45 = .ok (.istore 4, 2) := by decide +kernel
theorem dX10_week_47 : decode cX10_week 47 = .ok (.iload 4, 2) := by decide +kernel
theorem dX10_week_49 : decode cX10_week 49 = .ok (.aload_n 0, 1) := by decide +kernel
theorem dX10_week_50 : decode cX10_week 50 = .ok (.getfield 9, 3) := by decide +kernel
theorem dX10_week_53 : decode cX10_week 53 = .ok (.iconst 1, 1) := by decide +kernel
theorem dX10_week_54 : decode cX10_week 54 = .ok (.iaload, 1) := by decide +kernel
theorem dX10_week_55 : decode cX10_week 55 = .ok (.if_icmp .ge 34, 3) := by decide +kernel
theorem dX10_week_58 : decode cX10_week 58 = .ok (.iload_n 3, 1) := by decide +kernel
theorem dX10_week_59 : decode cX10_week 59 = .ok (.aload_n 0, 1) := by decide +kernel
theorem dX10_week_60 : decode cX10_week 60 = .ok (.iload 4, 2) := by decide +kernel
theorem dX10_week_62 : decode cX10_week 62 = .ok (.iload_n 2, 1) := by decide +kernel
theorem dX10_week_63 : decode cX10_week 63 = .ok (.invokevirtual 117, 3) := by decide +kernel
theorem dX10_week_66 : decode cX10_week 66 = .ok (.iload_n 1, 1) := by decide +kernel
theorem dX10_week_67 : decode cX10_week 67 = .ok (.if_icmp .ne 13, 3) := by decide +kernel
theorem dX10_week_70 : decode cX10_week 70 = .ok (.aload_n 0, 1) := by decide +kernel
theorem dX10_week_71 : decode cX10_week 71 = .ok (.iload 4, 2) := by decide +kernel
theorem dX10_week_73 : decode cX10_week 73 = .ok (.iload_n 2, 1) := by decide +kernel
theorem dX10_week_74 : decode cX10_week 74 = .ok (.invokevirtual 124, 3) := by decide +kernel
theorem dX10_week_77 : decode cX10_week 77 = .ok (.goto 4, 3) := by decide +kernel
theorem dX10_week_80 : decode cX10_week 80 = .ok (.iconst 0, 1) := by decide +kernel
theorem dX10_week_81 : decode cX10_week 81 = .ok (.iadd, 1) := by decide +kernel
theorem dX10_week_82 : decode cX10_week 82 = .ok (.istore_n 3, 1) := by decide +kernel
theorem dX10_week_83 : decode cX10_week 83 = .ok (.iinc 4 1, 3) := by decide +kernel
theorem dX10_week_86 : decode cX10_week 86 = .ok (.goto (-39), 3) := by decide +kernel
theorem dX10_week_89 : decode cX10_week 89 = .ok (.iload_n 3, 1) := by decide +kernel
theorem dX10_week_90 : decode cX10_week 90 = .ok (.ireturn, 1) := by decide +kernel
theorem dX10_rate_0 : decode cX10_rate 0 = .ok (.aload_n 0, 1) := by decide +kernel
theorem dX10_rate_1 : decode cX10_rate 1 = .ok (.iload_n 1, 1) := by decide +kernel
theorem dX10_rate_2 : decode cX10_rate 2 = .ok (.invokevirtual 51, 3) := by decide +kernel
theorem dX10_rate_5 : decode cX10_rate 5 = .ok (.ifCond .eq 14, 3) := by decide +kernel
theorem dX10_rate_8 : decode cX10_rate 8 = .ok (.iload_n 2, 1) := by decide +kernel
theorem dX10_rate_9 : decode cX10_rate 9 = .ok (.iconst 0, 1) := by decide +kernel
theorem dX10_rate_10 : decode cX10_rate 10 = .ok (.sipush 10000, 3) := by decide +kernel
theorem dX10_rate_13 : decode cX10_rate 13 = .ok (.invokestatic 41, 3) := by decide +kernel
theorem dX10_rate_16 : decode cX10_rate 16 = .ok (.ifCond .ne 10, 3) := by decide +kernel
theorem dX10_rate_19 : decode cX10_rate 19 = .ok (.aload_n 0, 1) := by decide +kernel
theorem dX10_rate_20 : decode cX10_rate 20 = .ok (.ldc 45, 2) := by decide +kernel
theorem dX10_rate_22 : decode cX10_rate 22 = .ok (.invokevirtual 46, 3) := by decide +kernel
theorem dX10_rate_25 : decode cX10_rate 25 = .ok (.ireturn, 1) := by decide +kernel
theorem dX10_rate_26 : decode cX10_rate 26 = .ok (.iconst 0, 1) := by decide +kernel
theorem dX10_rate_27 : decode cX10_rate 27 = .ok (.istore_n 3, 1) := by decide +kernel
theorem dX10_rate_28 : decode cX10_rate 28 = .ok (.iconst 0, 1) := by decide +kernel
theorem dX10_rate_29 : decode cX10_rate 29 = .ok (.istore 4, 2) := by decide +kernel
theorem dX10_rate_31 : decode cX10_rate 31 = .ok (.iload 4, 2) := by decide +kernel
theorem dX10_rate_33 : decode cX10_rate 33 = .ok (.aload_n 0, 1) := by decide +kernel
theorem dX10_rate_34 : decode cX10_rate 34 = .ok (.getfield 9, 3) := by decide +kernel
theorem dX10_rate_37 : decode cX10_rate 37 = .ok (.iconst 0, 1) := by decide +kernel
theorem dX10_rate_38 : decode cX10_rate 38 = .ok (.iaload, 1) := by decide +kernel
theorem dX10_rate_39 : decode cX10_rate 39 = .ok (.if_icmp .ge 22, 3) := by decide +kernel
theorem dX10_rate_42 : decode cX10_rate 42 = .ok (.iload_n 3, 1) := by decide +kernel
theorem dX10_rate_43 : decode cX10_rate 43 = .ok (.aload_n 0, 1) := by decide +kernel
theorem dX10_rate_44 : decode cX10_rate 44 = .ok (.getfield 9, 3) := by decide +kernel
theorem dX10_rate_47 : decode cX10_rate 47 = .ok (.bipush 7, 2) := by decide +kernel
theorem dX10_rate_49 : decode cX10_rate 49 = .ok (.iload 4, 2) := by decide +kernel
theorem dX10_rate_51 : decode cX10_rate 51 = .ok (.iadd, 1) := by decide +kernel
theorem dX10_rate_52 : decode cX10_rate 52 = .ok (.iaload, 1) := by decide +kernel
theorem dX10_rate_53 : decode cX10_rate 53 = .ok (.iadd, 1) := by decide +kernel
theorem dX10_rate_54 : decode cX10_rate 54 = .ok (.istore_n 3, 1) := by decide +kernel
theorem dX10_rate_55 : decode cX10_rate 55 = .ok (.iinc 4 1, 3) := by decide +kernel
theorem dX10_rate_58 : decode cX10_rate 58 = .ok (.goto (-27), 3) := by decide +kernel
theorem dX10_rate_61 : decode cX10_rate 61 = .ok (.iload_n 3, 1) := by decide +kernel
theorem dX10_rate_62 : decode cX10_rate 62 = .ok (.ifCond .ne 10, 3) := by decide +kernel
theorem dX10_rate_65 : decode cX10_rate 65 = .ok (.aload_n 0, 1) := by decide +kernel
theorem dX10_rate_66 : decode cX10_rate 66 = .ok (.ldc 72, 2) := by decide +kernel
theorem dX10_rate_68 : decode cX10_rate 68 = .ok (.invokevirtual 46, 3) := by decide +kernel
theorem dX10_rate_71 : decode cX10_rate 71 = .ok (.ireturn, 1) := by decide +kernel
theorem dX10_rate_72 : decode cX10_rate 72 = .ok (.iload_n 2, 1) := by decide +kernel
theorem dX10_rate_73 : decode cX10_rate 73 = .ok (.istore 4, 2) := by decide +kernel
theorem dX10_rate_75 : decode cX10_rate 75 = .ok (.iconst 0, 1) := by decide +kernel
theorem dX10_rate_76 : decode cX10_rate 76 = .ok (.istore 5, 2) := by decide +kernel
theorem dX10_rate_78 : decode cX10_rate 78 = .ok (.aload_n 0, 1) := by decide +kernel
theorem dX10_rate_79 : decode cX10_rate 79 = .ok (.getfield 9, 3) := by decide +kernel
theorem dX10_rate_82 : decode cX10_rate 82 = .ok (.bipush 7, 2) := by decide +kernel
theorem dX10_rate_84 : decode cX10_rate 84 = .ok (.iload_n 1, 1) := by decide +kernel
theorem dX10_rate_85 : decode cX10_rate 85 = .ok (.iadd, 1) := by decide +kernel
theorem dX10_rate_86 : decode cX10_rate 86 = .ok (.iaload, 1) := by decide +kernel
theorem dX10_rate_87 : decode cX10_rate 87 = .ok (.iload_n 2, 1) := by decide +kernel
theorem dX10_rate_88 : decode cX10_rate 88 = .ok (.imul, 1) := by decide +kernel
theorem dX10_rate_89 : decode cX10_rate 89 = .ok (.iload_n 3, 1) := by decide +kernel
theorem dX10_rate_90 : decode cX10_rate 90 = .ok (.irem, 1) := by decide +kernel
theorem dX10_rate_91 : decode cX10_rate 91 = .ok (.istore 6, 2) := by decide +kernel
theorem dX10_rate_93 : decode cX10_rate 93 = .ok (.iconst 0, 1) := by decide +kernel
theorem dX10_rate_94 : decode cX10_rate 94 = .ok (.istore 7, 2) := by decide +kernel
theorem dX10_rate_96 : decode cX10_rate 96 = .ok (.iload 7, 2) := by decide +kernel
theorem dX10_rate_98 : decode cX10_rate 98 = .ok (.aload_n 0, 1) := by decide +kernel
theorem dX10_rate_99 : decode cX10_rate 99 = .ok (.getfield 9, 3) := by decide +kernel
theorem dX10_rate_102 : decode cX10_rate 102 = .ok (.iconst 0, 1) := by decide +kernel
theorem dX10_rate_103 : decode cX10_rate 103 = .ok (.iaload, 1) := by decide +kernel
theorem dX10_rate_104 : decode cX10_rate 104 = .ok (.if_icmp .ge 74, 3) := by decide +kernel
theorem dX10_rate_107 : decode cX10_rate 107 = .ok (.iload 4, 2) := by decide +kernel
theorem dX10_rate_109 : decode cX10_rate 109 = .ok (.aload_n 0, 1) := by decide +kernel
theorem dX10_rate_110 : decode cX10_rate 110 = .ok (.getfield 9, 3) := by decide +kernel
theorem dX10_rate_113 : decode cX10_rate 113 = .ok (.bipush 7, 2) := by decide +kernel
theorem dX10_rate_115 : decode cX10_rate 115 = .ok (.iload 7, 2) := by decide +kernel
theorem dX10_rate_117 : decode cX10_rate 117 = .ok (.iadd, 1) := by decide +kernel
theorem dX10_rate_118 : decode cX10_rate 118 = .ok (.iaload, 1) := by decide +kernel
theorem dX10_rate_119 : decode cX10_rate 119 = .ok (.iload_n 2, 1) := by decide +kernel
theorem dX10_rate_120 : decode cX10_rate 120 = .ok (.imul, 1) := by decide +kernel
theorem dX10_rate_121 : decode cX10_rate 121 = .ok (.iload_n 3, 1) := by decide +kernel
theorem dX10_rate_122 : decode cX10_rate 122 = .ok (.idiv, 1) := by decide +kernel
theorem dX10_rate_123 : decode cX10_rate 123 = .ok (.isub, 1) := by decide +kernel
theorem dX10_rate_124 : decode cX10_rate 124 = .ok (.istore 4, 2) := by decide +kernel
theorem dX10_rate_126 : decode cX10_rate 126 = .ok (.aload_n 0, 1) := by decide +kernel
theorem dX10_rate_127 : decode cX10_rate 127 = .ok (.getfield 9, 3) := by decide +kernel
theorem dX10_rate_130 : decode cX10_rate 130 = .ok (.bipush 7, 2) := by decide +kernel
theorem dX10_rate_132 : decode cX10_rate 132 = .ok (.iload 7, 2) := by decide +kernel
theorem dX10_rate_134 : decode cX10_rate 134 = .ok (.iadd, 1) := by decide +kernel
theorem dX10_rate_135 : decode cX10_rate 135 = .ok (.iaload, 1) := by decide +kernel
theorem dX10_rate_136 : decode cX10_rate 136 = .ok (.iload_n 2, 1) := by decide +kernel
theorem dX10_rate_137 : decode cX10_rate 137 = .ok (.imul, 1) := by decide +kernel
theorem dX10_rate_138 : decode cX10_rate 138 = .ok (.iload_n 3, 1) := by decide +kernel
theorem dX10_rate_139 : decode cX10_rate 139 = .ok (.irem, 1) := by decide +kernel
theorem dX10_rate_140 : decode cX10_rate 140 = .ok (.istore 8, 2) := by decide +kernel
theorem dX10_rate_142 : decode cX10_rate 142 = .ok (.iload 5, 2) := by decide +kernel
theorem dX10_rate_144 : decode cX10_rate 144 = .ok (.iload 8, 2) := by decide +kernel
theorem dX10_rate_146 : decode cX10_rate 146 = .ok (.iload 6, 2) := by decide +kernel
theorem dX10_rate_148 : decode cX10_rate 148 = .ok (.if_icmp .gt 16, 3) := by decide +kernel
theorem dX10_rate_151 : decode cX10_rate 151 = .ok (.iload 8, 2) := by decide +kernel
theorem dX10_rate_153 : decode cX10_rate 153 = .ok (.iload 6, 2) := by decide +kernel
theorem dX10_rate_155 : decode cX10_rate 155 = .ok (.if_icmp .ne 13, 3) := by decide +kernel
theorem dX10_rate_158 : decode cX10_rate 158 = .ok (.iload 7, 2) := by decide +kernel
theorem dX10_rate_160 : decode cX10_rate 160 = .ok (.iload_n 1, 1) := by decide +kernel
theorem dX10_rate_161 : decode cX10_rate 161 = .ok (.if_icmp .ge 7, 3) := by decide +kernel
theorem dX10_rate_164 : decode cX10_rate 164 = .ok (.iconst 1, 1) := by decide +kernel
theorem dX10_rate_165 : decode cX10_rate 165 = .ok (.goto 4, 3) := by decide +kernel
theorem dX10_rate_168 : decode cX10_rate 168 = .ok (.iconst 0, 1) := by decide +kernel
theorem dX10_rate_169 : decode cX10_rate 169 = .ok (.iadd, 1) := by decide +kernel
theorem dX10_rate_170 : decode cX10_rate 170 = .ok (.istore 5, 2) := by decide +kernel
theorem dX10_rate_172 : decode cX10_rate 172 = .ok (.iinc 7 1, 3) := by decide +kernel
theorem dX10_rate_175 : decode cX10_rate 175 = .ok (.goto (-79), 3) := by decide +kernel
theorem dX10_rate_178 : decode cX10_rate 178 = .ok (.aload_n 0, 1) := by decide +kernel
theorem dX10_rate_179 : decode cX10_rate 179 = .ok (.getfield 9, 3) := by decide +kernel
theorem dX10_rate_182 : decode cX10_rate 182 = .ok (.bipush 7, 2) := by decide +kernel
theorem dX10_rate_184 : decode cX10_rate 184 = .ok (.iload_n 1, 1) := by decide +kernel
theorem dX10_rate_185 : decode cX10_rate 185 = .ok (.iadd, 1) := by decide +kernel
theorem dX10_rate_186 : decode cX10_rate 186 = .ok (.iaload, 1) := by decide +kernel
theorem dX10_rate_187 : decode cX10_rate 187 = .ok (.iload_n 2, 1) := by decide +kernel
theorem dX10_rate_188 : decode cX10_rate 188 = .ok (.imul, 1) := by decide +kernel
theorem dX10_rate_189 : decode cX10_rate 189 = .ok (.iload_n 3, 1) := by decide +kernel
theorem dX10_rate_190 : decode cX10_rate 190 = .ok (.idiv, 1) := by decide +kernel
theorem dX10_rate_191 : decode cX10_rate 191 = .ok (.iload 5, 2) := by decide +kernel
theorem dX10_rate_193 : decode cX10_rate 193 = .ok (.iload 4, 2) := by decide +kernel
theorem dX10_rate_195 : decode cX10_rate 195 = .ok (.if_icmp .ge 7, 3) := by decide +kernel
theorem dX10_rate_198 : decode cX10_rate 198 = .ok (.iconst 1, 1) := by decide +kernel
theorem dX10_rate_199 : decode cX10_rate 199 = .ok (.goto 4, 3) := by decide +kernel
theorem dX10_rate_202 : decode cX10_rate 202 = .ok (.iconst 0, 1) := by decide +kernel
theorem dX10_rate_203 : decode cX10_rate 203 = .ok (.iadd, 1) := by decide +kernel
theorem dX10_rate_204 : decode cX10_rate 204 = .ok (.ireturn, 1) := by decide +kernel
theorem dX10_isSheet_0 : decode cX10_isSheet 0 = .ok (.iload_n 0, 1) := by decide +kernel
theorem dX10_isSheet_1 : decode cX10_isSheet 1 = .ok (.iconst 0, 1) := by decide +kernel
theorem dX10_isSheet_2 : decode cX10_isSheet 2 = .ok (.iconst 3, 1) := by decide +kernel
theorem dX10_isSheet_3 : decode cX10_isSheet 3 = .ok (.invokestatic 41, 3) := by decide +kernel
theorem dX10_isSheet_6 : decode cX10_isSheet 6 = .ok (.ireturn, 1) := by decide +kernel
theorem dX10_sheet_0 : decode cX10_sheet 0 = .ok (.iload_n 1, 1) := by decide +kernel
theorem dX10_sheet_1 : decode cX10_sheet 1 = .ok (.invokestatic 127, 3) := by decide +kernel
theorem dX10_sheet_4 : decode cX10_sheet 4 = .ok (.ifCond .eq 25, 3) := by decide +kernel
theorem dX10_sheet_7 : decode cX10_sheet 7 = .ok (.iload_n 2, 1) := by decide +kernel
theorem dX10_sheet_8 : decode cX10_sheet 8 = .ok (.ifCond .eq 28, 3) := by decide +kernel
theorem dX10_sheet_11 : decode cX10_sheet 11 = .ok (.iload_n 2, 1) := by decide +kernel
theorem dX10_sheet_12 : decode cX10_sheet 12 = .ok (.bipush 8, 2) := by decide +kernel
theorem dX10_sheet_14 : decode cX10_sheet 14 = .ok (.if_icmp .eq 22, 3) := by decide +kernel
theorem dX10_sheet_17 : decode cX10_sheet 17 = .ok (.iload_n 2, 1) := by decide +kernel
theorem dX10_sheet_18 : decode cX10_sheet 18 = .ok (.bipush 16, 2) := by decide +kernel
theorem dX10_sheet_20 : decode cX10_sheet 20 = .ok (.if_icmp .eq 16, 3) := by decide +kernel
theorem dX10_sheet_23 : decode cX10_sheet 23 = .ok (.iload_n 2, 1) := by decide +kernel
theorem dX10_sheet_24 : decode cX10_sheet 24 = .ok (.bipush 32, 2) := by decide +kernel
theorem dX10_sheet_26 : decode cX10_sheet 26 = .ok (.if_icmp .eq 10, 3) := by decide +kernel
theorem dX10_sheet_29 : decode cX10_sheet 29 = .ok (.aload_n 0, 1) := by decide +kernel
theorem dX10_sheet_30 : decode cX10_sheet 30 = .ok (.ldc 45, 2) := by decide +kernel
theorem dX10_sheet_32 : decode cX10_sheet 32 = .ok (.invokevirtual 46, 3) := by decide +kernel
theorem dX10_sheet_35 : decode cX10_sheet 35 = .ok (.ireturn, 1) := by decide +kernel
theorem dX10_sheet_36 : decode cX10_sheet 36 = .ok (.iload_n 3, 1) := by decide +kernel
theorem dX10_sheet_37 : decode cX10_sheet 37 = .ok (.ifCond .ge 10, 3) := by decide +kernel
theorem dX10_sheet_40 : decode cX10_sheet 40 = .ok (.aload_n 0, 1) := by decide +kernel
theorem dX10_sheet_41 : decode cX10_sheet 41 = .ok (.ldc 55, 2) := by decide +kernel
theorem dX10_sheet_43 : decode cX10_sheet 43 = .ok (.invokevirtual 46, 3) := by decide +kernel
theorem dX10_sheet_46 : decode cX10_sheet 46 = .ok (.ireturn, 1) := by decide +kernel
theorem dX10_sheet_47 : decode cX10_sheet 47 = .ok (.iload_n 3, 1) := by decide +kernel
theorem dX10_sheet_48 : decode cX10_sheet 48 = .ok (.bipush 60, 2) := by decide +kernel
theorem dX10_sheet_50 : decode cX10_sheet 50 = .ok (.if_icmp .le 10, 3) := by decide +kernel
theorem dX10_sheet_53 : decode cX10_sheet 53 = .ok (.aload_n 0, 1) := by decide +kernel
theorem dX10_sheet_54 : decode cX10_sheet 54 = .ok (.ldc 45, 2) := by decide +kernel
theorem dX10_sheet_56 : decode cX10_sheet 56 = .ok (.invokevirtual 46, 3) := by decide +kernel
theorem dX10_sheet_59 : decode cX10_sheet 59 = .ok (.ireturn, 1) := by decide +kernel
theorem dX10_sheet_60 : decode cX10_sheet 60 = .ok (.aload_n 0, 1) := by decide +kernel
theorem dX10_sheet_61 : decode cX10_sheet 61 = .ok (.getfield 16, 3) := by decide +kernel
theorem dX10_sheet_64 : decode cX10_sheet 64 = .ok (.iload_n 1, 1) := by decide +kernel
theorem dX10_sheet_65 : decode cX10_sheet 65 = .ok (.iload_n 2, 1) := by decide +kernel
theorem dX10_sheet_66 : decode cX10_sheet 66 = .ok (.iastore, 1) := by decide +kernel
theorem dX10_sheet_67 : decode cX10_sheet 67 = .ok (.aload_n 0, 1) := by decide +kernel
theorem dX10_sheet_68 : decode cX10_sheet 68 = .ok (.getfield 19, 3) := by decide +kernel
theorem dX10_sheet_71 : decode cX10_sheet 71 = .ok (.iload_n 1, 1) := by decide +kernel
theorem dX10_sheet_72 : decode cX10_sheet 72 = .ok (.iload_n 2, 1) := by decide +kernel
theorem dX10_sheet_73 : decode cX10_sheet 73 = .ok (.ifCond .ne 7, 3) := by decide +kernel
theorem dX10_sheet_76 : decode cX10_sheet 76 = .ok (.iconst 0, 1) := by decide +kernel
theorem dX10_sheet_77 : decode cX10_sheet 77 = .ok (.goto 4, 3) := by decide +kernel
theorem dX10_sheet_80 : decode cX10_sheet 80 = .ok (.iload_n 3, 1) := by decide +kernel
theorem dX10_sheet_81 : decode cX10_sheet 81 = .ok (.iastore, 1) := by decide +kernel
theorem dX10_sheet_82 : decode cX10_sheet 82 = .ok (.iconst 0, 1) := by decide +kernel
theorem dX10_sheet_83 : decode cX10_sheet 83 = .ok (.istore 4, 2) := by decide +kernel
theorem dX10_sheet_85 : decode cX10_sheet 85 = .ok (.iload 4, 2) := by decide +kernel
theorem dX10_sheet_87 : decode cX10_sheet 87 = .ok (.bipush 60, 2) := by decide +kernel
theorem dX10_sheet_89 : decode cX10_sheet 89 = .ok (.if_icmp .ge 22, 3) := by decide +kernel
theorem dX10_sheet_92 : decode cX10_sheet 92 = .ok (.aload_n 0, 1) := by decide +kernel
theorem dX10_sheet_93 : decode cX10_sheet 93 = .ok (.getfield 22, 3) := by decide +kernel
theorem dX10_sheet_96 : decode cX10_sheet 96 = .ok (.bipush 60, 2) := by decide +kernel
theorem dX10_sheet_98 : decode cX10_sheet 98 = .ok (.iload_n 1, 1) := by decide +kernel
theorem dX10_sheet_99 : decode cX10_sheet 99 = .ok (.imul, 1) := by decide +kernel
theorem dX10_sheet_100 : decode cX10_sheet 100 = .ok (.iload 4, 2) := by decide +kernel
theorem dX10_sheet_102 : decode cX10_sheet 102 = .ok (.iadd, 1) := by decide +kernel
theorem dX10_sheet_103 : decode cX10_sheet 103 = .ok (.iconst 0, 1) := by decide +kernel
theorem dX10_sheet_104 : decode cX10_sheet 104 = .ok (.iastore, 1) := by decide +kernel
theorem dX10_sheet_105 : decode cX10_sheet 105 = .ok (.iinc 4 1, 3) := by decide +kernel
theorem dX10_sheet_108 : decode cX10_sheet 108 = .ok (.goto (-23), 3) := by decide +kernel
theorem dX10_sheet_111 : decode cX10_sheet 111 = .ok (.aload_n 0, 1) := by decide +kernel
theorem dX10_sheet_112 : decode cX10_sheet 112 = .ok (.getfield 19, 3) := by decide +kernel
theorem dX10_sheet_115 : decode cX10_sheet 115 = .ok (.iload_n 1, 1) := by decide +kernel
theorem dX10_sheet_116 : decode cX10_sheet 116 = .ok (.iaload, 1) := by decide +kernel
theorem dX10_sheet_117 : decode cX10_sheet 117 = .ok (.ireturn, 1) := by decide +kernel
theorem dX10_put_0 : decode cX10_put 0 = .ok (.iload_n 1, 1) := by decide +kernel
theorem dX10_put_1 : decode cX10_put 1 = .ok (.invokestatic 127, 3) := by decide +kernel
theorem dX10_put_4 : decode cX10_put 4 = .ok (.ifCond .ne 10, 3) := by decide +kernel
theorem dX10_put_7 : decode cX10_put 7 = .ok (.aload_n 0, 1) := by decide +kernel
theorem dX10_put_8 : decode cX10_put 8 = .ok (.ldc 45, 2) := by decide +kernel
theorem dX10_put_10 : decode cX10_put 10 = .ok (.invokevirtual 46, 3) := by decide +kernel
theorem dX10_put_13 : decode cX10_put 13 = .ok (.ireturn, 1) := by decide +kernel
theorem dX10_put_14 : decode cX10_put 14 = .ok (.aload_n 0, 1) := by decide +kernel
theorem dX10_put_15 : decode cX10_put 15 = .ok (.getfield 16, 3) := by decide +kernel
theorem dX10_put_18 : decode cX10_put 18 = .ok (.iload_n 1, 1) := by decide +kernel
theorem dX10_put_19 : decode cX10_put 19 = .ok (.iaload, 1) := by decide +kernel
theorem dX10_put_20 : decode cX10_put 20 = .ok (.ifCond .ne 10, 3) := by decide +kernel
theorem dX10_put_23 : decode cX10_put 23 = .ok (.aload_n 0, 1) := by decide +kernel
theorem dX10_put_24 : decode cX10_put 24 = .ok (.ldc 123, 2) := by decide +kernel
theorem dX10_put_26 : decode cX10_put 26 = .ok (.invokevirtual 46, 3) := by decide +kernel
theorem dX10_put_29 : decode cX10_put 29 = .ok (.ireturn, 1) := by decide +kernel
theorem dX10_put_30 : decode cX10_put 30 = .ok (.iload_n 2, 1) := by decide +kernel
theorem dX10_put_31 : decode cX10_put 31 = .ok (.iconst 0, 1) := by decide +kernel
theorem dX10_put_32 : decode cX10_put 32 = .ok (.aload_n 0, 1) := by decide +kernel
theorem dX10_put_33 : decode cX10_put 33 = .ok (.getfield 19, 3) := by decide +kernel
theorem dX10_put_36 : decode cX10_put 36 = .ok (.iload_n 1, 1) := by decide +kernel
theorem dX10_put_37 : decode cX10_put 37 = .ok (.iaload, 1) := by decide +kernel
theorem dX10_put_38 : decode cX10_put 38 = .ok (.iconst 1, 1) := by decide +kernel
theorem dX10_put_39 : decode cX10_put 39 = .ok (.isub, 1) := by decide +kernel
theorem dX10_put_40 : decode cX10_put 40 = .ok (.invokestatic 41, 3) := by decide +kernel
theorem dX10_put_43 : decode cX10_put 43 = .ok (.ifCond .ne 10, 3) := by decide +kernel
theorem dX10_put_46 : decode cX10_put 46 = .ok (.aload_n 0, 1) := by decide +kernel
theorem dX10_put_47 : decode cX10_put 47 = .ok (.ldc 45, 2) := by decide +kernel
theorem dX10_put_49 : decode cX10_put 49 = .ok (.invokevirtual 46, 3) := by decide +kernel
theorem dX10_put_52 : decode cX10_put 52 = .ok (.ireturn, 1) := by decide +kernel
theorem dX10_put_53 : decode cX10_put 53 = .ok (.bipush 32, 2) := by decide +kernel
theorem dX10_put_55 : decode cX10_put 55 = .ok (.aload_n 0, 1) := by decide +kernel
theorem dX10_put_56 : decode cX10_put 56 = .ok (.getfield 16, 3) := by decide +kernel
theorem dX10_put_59 : decode cX10_put 59 = .ok (.iload_n 1, 1) := by decide +kernel
theorem dX10_put_60 : decode cX10_put 60 = .ok (.iaload, 1) := by decide +kernel
theorem dX10_put_61 : decode cX10_put 61 = .ok (.isub, 1) := by decide +kernel
theorem dX10_put_62 : decode cX10_put 62 = .ok (.istore 4, 2) := by decide +kernel
theorem dX10_put_64 : decode cX10_put 64 = .ok (.aload_n 0, 1) := by decide +kernel
theorem dX10_put_65 : decode cX10_put 65 = .ok (.getfield 22, 3) := by decide +kernel
theorem dX10_put_68 : decode cX10_put 68 = .ok (.bipush 60, 2) := by decide +kernel
theorem dX10_put_70 : decode cX10_put 70 = .ok (.iload_n 1, 1) := by decide +kernel
theorem dX10_put_71 : decode cX10_put 71 = .ok (.imul, 1) := by decide +kernel
theorem dX10_put_72 : decode cX10_put 72 = .ok (.iload_n 2, 1) := by decide +kernel
theorem dX10_put_73 : decode cX10_put 73 = .ok (.iadd, 1) := by decide +kernel
theorem dX10_put_74 : decode cX10_put 74 = .ok (.iload_n 3, 1) := by decide +kernel
theorem dX10_put_75 : decode cX10_put 75 = .ok (.iload 4, 2) := by decide +kernel
theorem dX10_put_77 : decode cX10_put 77 = .ok (.ishl, 1) := by decide +kernel
theorem dX10_put_78 : decode cX10_put 78 = .ok (.iload 4, 2) := by decide +kernel
theorem dX10_put_80 : decode cX10_put 80 = .ok (.ishr, 1) := by decide +kernel
theorem dX10_put_81 : decode cX10_put 81 = .ok (.iastore, 1) := by decide +kernel
theorem dX10_put_82 : decode cX10_put 82 = .ok (.iconst 0, 1) := by decide +kernel
theorem dX10_put_83 : decode cX10_put 83 = .ok (.ireturn, 1) := by decide +kernel
theorem dX10_copy_0 : decode cX10_copy 0 = .ok (.iload_n 1, 1) := by decide +kernel
theorem dX10_copy_1 : decode cX10_copy 1 = .ok (.invokestatic 127, 3) := by decide +kernel
theorem dX10_copy_4 : decode cX10_copy 4 = .ok (.ifCond .eq 10, 3) := by decide +kernel
theorem dX10_copy_7 : decode cX10_copy 7 = .ok (.iload_n 3, 1) := by decide +kernel
theorem dX10_copy_8 : decode cX10_copy 8 = .ok (.invokestatic 127, 3) := by decide +kernel
theorem dX10_copy_11 : decode cX10_copy 11 = .ok (.ifCond .ne 10, 3) := by decide +kernel
theorem dX10_copy_14 : decode cX10_copy 14 = .ok (.aload_n 0, 1) := by decide +kernel
theorem dX10_copy_15 : decode cX10_copy 15 = .ok (.ldc 45, 2) := by decide +kernel
theorem dX10_copy_17 : decode cX10_copy 17 = .ok (.invokevirtual 46, 3) := by decide +kernel
theorem dX10_copy_20 : decode cX10_copy 20 = .ok (.ireturn, 1) := by decide +kernel
theorem dX10_copy_21 : decode cX10_copy 21 = .ok (.aload_n 0, 1) := by decide +kernel
theorem dX10_copy_22 : decode cX10_copy 22 = .ok (.getfield 16, 3) := by decide +kernel
theorem dX10_copy_25 : decode cX10_copy 25 = .ok (.iload_n 1, 1) := by decide +kernel
theorem dX10_copy_26 : decode cX10_copy 26 = .ok (.iaload, 1) := by decide +kernel
theorem dX10_copy_27 : decode cX10_copy 27 = .ok (.ifCond .eq 12, 3) := by decide +kernel
theorem dX10_copy_30 : decode cX10_copy 30 = .ok (.aload_n 0, 1) := by decide +kernel
theorem dX10_copy_31 : decode cX10_copy 31 = .ok (.getfield 16, 3) := by decide +kernel
theorem dX10_copy_34 : decode cX10_copy 34 = .ok (.iload_n 3, 1) := by decide +kernel
theorem dX10_copy_35 : decode cX10_copy 35 = .ok (.iaload, 1) := by decide +kernel
theorem dX10_copy_36 : decode cX10_copy 36 = .ok (.ifCond .ne 10, 3) := by decide +kernel
theorem dX10_copy_39 : decode cX10_copy 39 = .ok (.aload_n 0, 1) := by decide +kernel
theorem dX10_copy_40 : decode cX10_copy 40 = .ok (.ldc 123, 2) := by decide +kernel
theorem dX10_copy_42 : decode cX10_copy 42 = .ok (.invokevirtual 46, 3) := by decide +kernel
theorem dX10_copy_45 : decode cX10_copy 45 = .ok (.ireturn, 1) := by decide +kernel
theorem dX10_copy_46 : decode cX10_copy 46 = .ok (.aload_n 0, 1) := by decide +kernel
theorem dX10_copy_47 : decode cX10_copy 47 = .ok (.getfield 16, 3) := by decide +kernel
theorem dX10_copy_50 : decode cX10_copy 50 = .ok (.iload_n 1, 1) := by decide +kernel
theorem dX10_copy_51 : decode cX10_copy 51 = .ok (.iaload, 1) := by decide +kernel
theorem dX10_copy_52 : decode cX10_copy 52 = .ok (.aload_n 0, 1) := by decide +kernel
theorem dX10_copy_53 : decode cX10_copy 53 = .ok (.getfield 16, 3) := by decide +kernel
theorem dX10_copy_56 : decode cX10_copy 56 = .ok (.iload_n 3, 1) := by decide +kernel
theorem dX10_copy_57 : decode cX10_copy 57 = .ok (.iaload, 1) := by decide +kernel
theorem dX10_copy_58 : decode cX10_copy 58 = .ok (.if_icmp .eq 10, 3) := by decide +kernel
theorem dX10_copy_61 : decode cX10_copy 61 = .ok (.aload_n 0, 1) := by decide +kernel
theorem dX10_copy_62 : decode cX10_copy 62 = .ok (.ldc 62, 2) := by decide +kernel
theorem dX10_copy_64 : decode cX10_copy 64 = .ok (.invokevirtual 46, 3) := by decide +kernel
theorem dX10_copy_67 : decode cX10_copy 67 = .ok (.ireturn, 1) := by decide +kernel
theorem dX10_copy_68 : decode cX10_copy 68 = .ok (.iload_n 2, 1) := by decide +kernel
theorem dX10_copy_69 : decode cX10_copy 69 = .ok (.ifCond .lt 48, 3) := by decide +kernel
theorem dX10_copy_72 : decode cX10_copy 72 = .ok (.iload 4, 2) := by decide +kernel
theorem dX10_copy_74 : decode cX10_copy 74 = .ok (.ifCond .lt 43, 3) := by decide +kernel
theorem dX10_copy_77 : decode cX10_copy 77 = .ok (.iload 5, 2) := by decide +kernel
theorem dX10_copy_79 : decode cX10_copy 79 = .ok (.ifCond .lt 38, 3) := by decide +kernel
theorem dX10_copy_82 : decode cX10_copy 82 = .ok (.iload_n 2, 1) := by decide +kernel
theorem dX10_copy_83 : decode cX10_copy 83 = .ok (.i2l, 1) := by decide +kernel
theorem dX10_copy_84 : decode cX10_copy 84 = .ok (.iload 5, 2) := by decide +kernel
theorem dX10_copy_86 : decode cX10_copy 86 = .ok (.i2l, 1) := by decide +kernel
theorem dX10_copy_87 : decode cX10_copy 87 = .ok (.ladd, 1) := by decide +kernel
theorem dX10_copy_88 : decode cX10_copy 88 = .ok (.aload_n 0, 1) := by decide +kernel
theorem dX10_copy_89 : decode cX10_copy 89 = .ok (.getfield 19, 3) := by decide +kernel
theorem dX10_copy_92 : decode cX10_copy 92 = .ok (.iload_n 1, 1) := by decide +kernel
theorem dX10_copy_93 : decode cX10_copy 93 = .ok (.iaload, 1) := by decide +kernel
theorem dX10_copy_94 : decode cX10_copy 94 = .ok (.i2l, 1) := by decide +kernel
theorem dX10_copy_95 : decode cX10_copy 95 = .ok (.lcmp, 1) := by decide +kernel
theorem dX10_copy_96 : decode cX10_copy 96 = .ok (.ifCond .gt 21, 3) := by decide +kernel
theorem dX10_copy_99 : decode cX10_copy 99 = .ok (.iload 4, 2) := by decide +kernel
theorem dX10_copy_101 : decode cX10_copy 101 = .ok (.i2l, 1) := by decide +kernel
theorem dX10_copy_102 : decode cX10_copy 102 = .ok (.iload 5, 2) := by decide +kernel
theorem dX10_copy_104 : decode cX10_copy 104 = .ok (.i2l, 1) := by decide +kernel
theorem dX10_copy_105 : decode cX10_copy 105 = .ok (.ladd, 1) := by decide +kernel
theorem dX10_copy_106 : decode cX10_copy 106 = .ok (.aload_n 0, 1) := by decide +kernel
theorem dX10_copy_107 : decode cX10_copy 107 = .ok (.getfield 19, 3) := by decide +kernel
theorem dX10_copy_110 : decode cX10_copy 110 = .ok (.iload_n 3, 1) := by decide +kernel
theorem dX10_copy_111 : decode cX10_copy 111 = .ok (.iaload, 1) := by decide +kernel
theorem dX10_copy_112 : decode cX10_copy 112 = .ok (.i2l, 1) := by decide +kernel
theorem dX10_copy_113 : decode cX10_copy 113 = .ok (.lcmp, 1) := by decide +kernel
theorem dX10_copy_114 : decode cX10_copy 114 = .ok (.ifCond .le 10, 3) := by decide +kernel
theorem dX10_copy_117 : decode cX10_copy 117 = .ok (.aload_n 0, 1) := by decide +kernel
theorem dX10_copy_118 : decode cX10_copy 118 = .ok (.ldc 45, 2) := by decide +kernel
theorem dX10_copy_120 : decode cX10_copy 120 = .ok (.invokevirtual 46, 3) := by decide +kernel
theorem dX10_copy_123 : decode cX10_copy 123 = .ok (.ireturn, 1) := by decide +kernel
theorem dX10_copy_124 : decode cX10_copy 124 = .ok (.iconst 0, 1) := by decide +kernel
theorem dX10_copy_125 : decode cX10_copy 125 = .ok (.istore 6, 2) := by decide +kernel
theorem dX10_copy_127 : decode cX10_copy 127 = .ok (.iload 6, 2) := by decide +kernel
theorem dX10_copy_129 : decode cX10_copy 129 = .ok (.iload 5, 2) := by decide +kernel
theorem dX10_copy_131 : decode cX10_copy 131 = .ok (.if_icmp .ge 30, 3) := by decide +kernel
theorem dX10_copy_134 : decode cX10_copy 134 = .ok (.aload_n 0, 1) := by decide +kernel
theorem dX10_copy_135 : decode cX10_copy 135 = .ok (.getfield 34, 3) := by decide +kernel
theorem dX10_copy_138 : decode cX10_copy 138 = .ok (.iload 6, 2) := by decide +kernel
theorem dX10_copy_140 : decode cX10_copy 140 = .ok (.aload_n 0, 1) := by decide +kernel
theorem dX10_copy_141 : decode cX10_copy 141 = .ok (.getfield 22, 3) := by decide +kernel
theorem dX10_copy_144 : decode cX10_copy 144 = .ok (.bipush 60, 2) := by decide +kernel
theorem dX10_copy_146 : decode cX10_copy 146 = .ok (.iload_n 1, 1) := by decide +kernel
theorem dX10_copy_147 : decode cX10_copy 147 = .ok (.imul, 1) := by decide +kernel
theorem dX10_copy_148 : decode cX10_copy 148 = .ok (.iload_n 2, 1) := by decide +kernel
theorem dX10_copy_149 : decode cX10_copy 149 = .ok (.iadd, 1) := by decide +kernel
theorem dX10_copy_150 : decode cX10_copy 150 = .ok (.iload 6, 2) := by decide +kernel
theorem dX10_copy_152 : decode cX10_copy 152 = .ok (.iadd, 1) := by decide +kernel
theorem dX10_copy_153 : decode cX10_copy 153 = .ok (.iaload, 1) := by decide +kernel
theorem dX10_copy_154 : decode cX10_copy 154 = .ok (.iastore, 1) := by decide +kernel
theorem dX10_copy_155 : decode cX10_copy 155 = .ok (.iinc 6 1, 3) := by decide +kernel
theorem dX10_copy_158 : decode cX10_copy 158 = .ok (.goto (-31), 3) := by decide +kernel
theorem dX10_copy_161 : decode cX10_copy 161 = .ok (.iconst 0, 1) := by decide +kernel
theorem dX10_copy_162 : decode cX10_copy 162 = .ok (.istore 6, 2) := by decide +kernel
theorem dX10_copy_164 : decode cX10_copy 164 = .ok (.iload 6, 2) := by decide +kernel
theorem dX10_copy_166 : decode cX10_copy 166 = .ok (.iload 5, 2) := by decide +kernel
theorem dX10_copy_168 : decode cX10_copy 168 = .ok (.if_icmp .ge 31, 3) := by decide +kernel
theorem dX10_copy_171 : decode cX10_copy 171 = .ok (.aload_n 0, 1) := by decide +kernel
theorem dX10_copy_172 : decode cX10_copy 172 = .ok (.getfield 22, 3) := by decide +kernel
theorem dX10_copy_175 : decode cX10_copy 175 = .ok (.bipush 60, 2) := by decide +kernel
theorem dX10_copy_177 : decode cX10_copy 177 = .ok (.iload_n 3, 1) := by decide +kernel
theorem dX10_copy_178 : decode cX10_copy 178 = .ok (.imul, 1) := by decide +kernel
theorem dX10_copy_179 : decode cX10_copy 179 = .ok (.iload 4, 2) := by decide +kernel
theorem dX10_copy_181 : decode cX10_copy 181 = .ok (.iadd, 1) := by decide +kernel
theorem dX10_copy_182 : decode cX10_copy 182 = .ok (.iload 6, 2) := by decide +kernel
theorem dX10_copy_184 : decode cX10_copy 184 = .ok (.iadd, 1) := by decide +kernel
theorem dX10_copy_185 : decode cX10_copy 185 = .ok (.aload_n 0, 1) := by decide +kernel
theorem dX10_copy_186 : decode cX10_copy 186 = .ok (.getfield 34, 3) := by decide +kernel
theorem dX10_copy_189 : decode cX10_copy 189 = .ok (.iload 6, 2) := by decide +kernel
theorem dX10_copy_191 : decode cX10_copy 191 = .ok (.iaload, 1) := by decide +kernel
theorem dX10_copy_192 : decode cX10_copy 192 = .ok (.iastore, 1) := by decide +kernel
theorem dX10_copy_193 : decode cX10_copy 193 = .ok (.iinc 6 1, 3) := by decide +kernel
theorem dX10_copy_196 : decode cX10_copy 196 = .ok (.goto (-32), 3) := by decide +kernel
theorem dX10_copy_199 : decode cX10_copy 199 = .ok (.iload 5, 2) := by decide +kernel
theorem dX10_copy_201 : decode cX10_copy 201 = .ok (.ireturn, 1) := by decide +kernel
theorem dX10_read_0 : decode cX10_read 0 = .ok (.iload_n 1, 1) := by decide +kernel
theorem dX10_read_1 : decode cX10_read 1 = .ok (.invokestatic 127, 3) := by decide +kernel
theorem dX10_read_4 : decode cX10_read 4 = .ok (.ifCond .ne 10, 3) := by decide +kernel
theorem dX10_read_7 : decode cX10_read 7 = .ok (.aload_n 0, 1) := by decide +kernel
theorem dX10_read_8 : decode cX10_read 8 = .ok (.ldc 45, 2) := by decide +kernel
theorem dX10_read_10 : decode cX10_read 10 = .ok (.invokevirtual 46, 3) := by decide +kernel
theorem dX10_read_13 : decode cX10_read 13 = .ok (.ireturn, 1) := by decide +kernel
theorem dX10_read_14 : decode cX10_read 14 = .ok (.aload_n 0, 1) := by decide +kernel
theorem dX10_read_15 : decode cX10_read 15 = .ok (.getfield 16, 3) := by decide +kernel
theorem dX10_read_18 : decode cX10_read 18 = .ok (.iload_n 1, 1) := by decide +kernel
theorem dX10_read_19 : decode cX10_read 19 = .ok (.iaload, 1) := by decide +kernel
theorem dX10_read_20 : decode cX10_read 20 = .ok (.ifCond .ne 10, 3) := by decide +kernel
theorem dX10_read_23 : decode cX10_read 23 = .ok (.aload_n 0, 1) := by decide +kernel
theorem dX10_read_24 : decode cX10_read 24 = .ok (.ldc 123, 2) := by decide +kernel
theorem dX10_read_26 : decode cX10_read 26 = .ok (.invokevirtual 46, 3) := by decide +kernel
theorem dX10_read_29 : decode cX10_read 29 = .ok (.ireturn, 1) := by decide +kernel
theorem dX10_read_30 : decode cX10_read 30 = .ok (.iconst 0, 1) := by decide +kernel
theorem dX10_read_31 : decode cX10_read 31 = .ok (.istore_n 2, 1) := by decide +kernel
theorem dX10_read_32 : decode cX10_read 32 = .ok (.iconst 0, 1) := by decide +kernel
theorem dX10_read_33 : decode cX10_read 33 = .ok (.istore_n 3, 1) := by decide +kernel
theorem dX10_read_34 : decode cX10_read 34 = .ok (.iload_n 3, 1) := by decide +kernel
theorem dX10_read_35 : decode cX10_read 35 = .ok (.aload_n 0, 1) := by decide +kernel
theorem dX10_read_36 : decode cX10_read 36 = .ok (.getfield 19, 3) := by decide +kernel
theorem dX10_read_39 : decode cX10_read 39 = .ok (.iload_n 1, 1) := by decide +kernel
theorem dX10_read_40 : decode cX10_read 40 = .ok (.iaload, 1) := by decide +kernel
theorem dX10_read_41 : decode cX10_read 41 = .ok (.if_icmp .ge 68, 3) := by decide +kernel
theorem dX10_read_44 : decode cX10_read 44 = .ok (.aload_n 0, 1) := by decide +kernel
theorem dX10_read_45 : decode cX10_read 45 = .ok (.getfield 22, 3) := by decide +kernel
theorem dX10_read_48 : decode cX10_read 48 = .ok (.bipush 60, 2) := by decide +kernel
theorem dX10_read_50 : decode cX10_read 50 = .ok (.iload_n 1, 1) := by decide +kernel
theorem dX10_read_51 : decode cX10_read 51 = .ok (.imul, 1) := by decide +kernel
theorem dX10_read_52 : decode cX10_read 52 = .ok (.iload_n 3, 1) := by decide +kernel
theorem dX10_read_53 : decode cX10_read 53 = .ok (.iadd, 1) := by decide +kernel
theorem dX10_read_54 : decode cX10_read 54 = .ok (.iaload, 1) := by decide +kernel
theorem dX10_read_55 : decode cX10_read 55 = .ok (.istore 4, 2) := by decide +kernel
theorem dX10_read_57 : decode cX10_read 57 = .ok (.aload_n 0, 1) := by decide +kernel
theorem dX10_read_58 : decode cX10_read 58 = .ok (.getfield 9, 3) := by decide +kernel
theorem dX10_read_61 : decode cX10_read 61 = .ok (.sipush 489, 3) := by decide +kernel
theorem dX10_read_64 : decode cX10_read 64 = .ok (.iload_n 3, 1) := by decide +kernel
theorem dX10_read_65 : decode cX10_read 65 = .ok (.iadd, 1) := by decide +kernel
theorem dX10_read_66 : decode cX10_read 66 = .ok (.iload 4, 2) := by decide +kernel
theorem dX10_read_68 : decode cX10_read 68 = .ok (.iconst 1, 1) := by decide +kernel
theorem dX10_read_69 : decode cX10_read 69 = .ok (.bipush 99, 2) := by decide +kernel
theorem dX10_read_71 : decode cX10_read 71 = .ok (.invokestatic 41, 3) := by decide +kernel
theorem dX10_read_74 : decode cX10_read 74 = .ok (.ifCond .eq 8, 3) := by decide +kernel
theorem dX10_read_77 : decode cX10_read 77 = .ok (.iload 4, 2) := by decide +kernel
theorem dX10_read_79 : decode cX10_read 79 = .ok (.goto 4, 3) := by decide +kernel
theorem dX10_read_82 : decode cX10_read 82 = .ok (.iconst 0, 1) := by decide +kernel
theorem dX10_read_83 : decode cX10_read 83 = .ok (.iastore, 1) := by decide +kernel
theorem dX10_read_84 : decode cX10_read 84 = .ok (.iload_n 2, 1) := by decide +kernel
theorem dX10_read_85 : decode cX10_read 85 = .ok (.iload 4, 2) := by decide +kernel
theorem dX10_read_87 : decode cX10_read 87 = .ok (.iconst 1, 1) := by decide +kernel
theorem dX10_read_88 : decode cX10_read 88 = .ok (.bipush 99, 2) := by decide +kernel
theorem dX10_read_90 : decode cX10_read 90 = .ok (.invokestatic 41, 3) := by decide +kernel
theorem dX10_read_93 : decode cX10_read 93 = .ok (.ifCond .eq 7, 3) := by decide +kernel
theorem dX10_read_96 : decode cX10_read 96 = .ok (.iconst 1, 1) := by decide +kernel
theorem dX10_read_97 : decode cX10_read 97 = .ok (.goto 4, 3) := by decide +kernel
theorem dX10_read_100 : decode cX10_read 100 = .ok (.iconst 0, 1) := by decide +kernel
theorem dX10_read_101 : decode cX10_read 101 = .ok (.iadd, 1) := by decide +kernel
theorem dX10_read_102 : decode cX10_read 102 = .ok (.istore_n 2, 1) := by decide +kernel
theorem dX10_read_103 : decode cX10_read 103 = .ok (.iinc 3 1, 3) := by decide +kernel
theorem dX10_read_106 : decode cX10_read 106 = .ok (.goto (-72), 3) := by decide +kernel
theorem dX10_read_109 : decode cX10_read 109 = .ok (.iload_n 2, 1) := by decide +kernel
theorem dX10_read_110 : decode cX10_read 110 = .ok (.ireturn, 1) := by decide +kernel
theorem dX10_keep_0 : decode cX10_keep 0 = .ok (.iconst 0, 1) := by decide +kernel
theorem dX10_keep_1 : decode cX10_keep 1 = .ok (.istore_n 1, 1) := by decide +kernel
theorem dX10_keep_2 : decode cX10_keep 2 = .ok (.iload_n 1, 1) := by decide +kernel
theorem dX10_keep_3 : decode cX10_keep 3 = .ok (.sipush 549, 3) := by decide +kernel
theorem dX10_keep_6 : decode cX10_keep 6 = .ok (.if_icmp .ge 21, 3) := by decide +kernel
theorem dX10_keep_9 : decode cX10_keep 9 = .ok (.aload_n 0, 1) := by decide +kernel
theorem dX10_keep_10 : decode cX10_keep 10 = .ok (.getfield 13, 3) := by decide +kernel
theorem dX10_keep_13 : decode cX10_keep 13 = .ok (.iload_n 1, 1) := by decide +kernel
theorem dX10_keep_14 : decode cX10_keep 14 = .ok (.aload_n 0, 1) := by decide +kernel
theorem dX10_keep_15 : decode cX10_keep 15 = .ok (.getfield 9, 3) := by decide +kernel
theorem dX10_keep_18 : decode cX10_keep 18 = .ok (.iload_n 1, 1) := by decide +kernel
theorem dX10_keep_19 : decode cX10_keep 19 = .ok (.iaload, 1) := by decide +kernel
theorem dX10_keep_20 : decode cX10_keep 20 = .ok (.iastore, 1) := by decide +kernel
theorem dX10_keep_21 : decode cX10_keep 21 = .ok (.iinc 1 1, 3) := by decide +kernel
theorem dX10_keep_24 : decode cX10_keep 24 = .ok (.goto (-22), 3) := by decide +kernel
theorem dX10_keep_27 : decode cX10_keep 27 = .ok (.aload_n 0, 1) := by decide +kernel
theorem dX10_keep_28 : decode cX10_keep 28 = .ok (.iconst 1, 1) := by decide +kernel
theorem dX10_keep_29 : decode cX10_keep 29 = .ok (.putfield 130, 3) := by decide +kernel
theorem dX10_keep_32 : decode cX10_keep 32 = .ok (.aload_n 0, 1) := by decide +kernel
theorem dX10_keep_33 : decode cX10_keep 33 = .ok (.getfield 9, 3) := by decide +kernel
theorem dX10_keep_36 : decode cX10_keep 36 = .ok (.iconst 1, 1) := by decide +kernel
theorem dX10_keep_37 : decode cX10_keep 37 = .ok (.iaload, 1) := by decide +kernel
theorem dX10_keep_38 : decode cX10_keep 38 = .ok (.ireturn, 1) := by decide +kernel
theorem dX10_back_0 : decode cX10_back 0 = .ok (.aload_n 0, 1) := by decide +kernel
theorem dX10_back_1 : decode cX10_back 1 = .ok (.getfield 130, 3) := by decide +kernel
theorem dX10_back_4 : decode cX10_back 4 = .ok (.ifCond .ne 10, 3) := by decide +kernel
theorem dX10_back_7 : decode cX10_back 7 = .ok (.aload_n 0, 1) := by decide +kernel
theorem dX10_back_8 : decode cX10_back 8 = .ok (.ldc 72, 2) := by decide +kernel
theorem dX10_back_10 : decode cX10_back 10 = .ok (.invokevirtual 46, 3) := by decide +kernel
theorem dX10_back_13 : decode cX10_back 13 = .ok (.ireturn, 1) := by decide +kernel
theorem dX10_back_14 : decode cX10_back 14 = .ok (.iconst 0, 1) := by decide +kernel
theorem dX10_back_15 : decode cX10_back 15 = .ok (.istore_n 1, 1) := by decide +kernel
theorem dX10_back_16 : decode cX10_back 16 = .ok (.iload_n 1, 1) := by decide +kernel
theorem dX10_back_17 : decode cX10_back 17 = .ok (.sipush 549, 3) := by decide +kernel
theorem dX10_back_20 : decode cX10_back 20 = .ok (.if_icmp .ge 21, 3) := by decide +kernel
theorem dX10_back_23 : decode cX10_back 23 = .ok (.aload_n 0, 1) := by decide +kernel
theorem dX10_back_24 : decode cX10_back 24 = .ok (.getfield 9, 3) := by decide +kernel
theorem dX10_back_27 : decode cX10_back 27 = .ok (.iload_n 1, 1) := by decide +kernel
theorem dX10_back_28 : decode cX10_back 28 = .ok (.aload_n 0, 1) := by decide +kernel
theorem dX10_back_29 : decode cX10_back 29 = .ok (.getfield 13, 3) := by decide +kernel
theorem dX10_back_32 : decode cX10_back 32 = .ok (.iload_n 1, 1) := by decide +kernel
theorem dX10_back_33 : decode cX10_back 33 = .ok (.iaload, 1) := by decide +kernel
theorem dX10_back_34 : decode cX10_back 34 = .ok (.iastore, 1) := by decide +kernel
theorem dX10_back_35 : decode cX10_back 35 = .ok (.iinc 1 1, 3) := by decide +kernel
theorem dX10_back_38 : decode cX10_back 38 = .ok (.goto (-22), 3) := by decide +kernel
theorem dX10_back_41 : decode cX10_back 41 = .ok (.aload_n 0, 1) := by decide +kernel
theorem dX10_back_42 : decode cX10_back 42 = .ok (.getfield 9, 3) := by decide +kernel
theorem dX10_back_45 : decode cX10_back 45 = .ok (.iconst 1, 1) := by decide +kernel
theorem dX10_back_46 : decode cX10_back 46 = .ok (.iaload, 1) := by decide +kernel
theorem dX10_back_47 : decode cX10_back 47 = .ok (.ireturn, 1) := by decide +kernel
theorem dX10_told_0 : decode cX10_told 0 = .ok (.iload_n 1, 1) := by decide +kernel
theorem dX10_told_1 : decode cX10_told 1 = .ok (.iconst 0, 1) := by decide +kernel
theorem dX10_told_2 : decode cX10_told 2 = .ok (.bipush 6, 2) := by decide +kernel
theorem dX10_told_4 : decode cX10_told 4 = .ok (.invokestatic 41, 3) := by decide +kernel
theorem dX10_told_7 : decode cX10_told 7 = .ok (.ifCond .ne 10, 3) := by decide +kernel
theorem dX10_told_10 : decode cX10_told 10 = .ok (.aload_n 0, 1) := by decide +kernel
theorem dX10_told_11 : decode cX10_told 11 = .ok (.ldc 45, 2) := by decide +kernel
theorem dX10_told_13 : decode cX10_told 13 = .ok (.invokevirtual 46, 3) := by decide +kernel
theorem dX10_told_16 : decode cX10_told 16 = .ok (.ireturn, 1) := by decide +kernel
theorem dX10_told_17 : decode cX10_told 17 = .ok (.iload_n 1, 1) := by decide +kernel
theorem dX10_told_18 : decode cX10_told 18 = .ok (.iconst 5, 1) := by decide +kernel
theorem dX10_told_19 : decode cX10_told 19 = .ok (.if_icmp .ge 12, 3) := by decide +kernel
theorem dX10_told_22 : decode cX10_told 22 = .ok (.aload_n 0, 1) := by decide +kernel
theorem dX10_told_23 : decode cX10_told 23 = .ok (.getfield 9, 3) := by decide +kernel
theorem dX10_told_26 : decode cX10_told 26 = .ok (.iload_n 1, 1) := by decide +kernel
theorem dX10_told_27 : decode cX10_told 27 = .ok (.iaload, 1) := by decide +kernel
theorem dX10_told_28 : decode cX10_told 28 = .ok (.goto 19, 3) := by decide +kernel
theorem dX10_told_31 : decode cX10_told 31 = .ok (.iload_n 1, 1) := by decide +kernel
theorem dX10_told_32 : decode cX10_told 32 = .ok (.iconst 5, 1) := by decide +kernel
theorem dX10_told_33 : decode cX10_told 33 = .ok (.if_icmp .ne 10, 3) := by decide +kernel
theorem dX10_told_36 : decode cX10_told 36 = .ok (.aload_n 0, 1) := by decide +kernel
theorem dX10_told_37 : decode cX10_told 37 = .ok (.getfield 37, 3) := by decide +kernel
theorem dX10_told_40 : decode cX10_told 40 = .ok (.goto 7, 3) := by decide +kernel
theorem dX10_told_43 : decode cX10_told 43 = .ok (.aload_n 0, 1) := by decide +kernel
theorem dX10_told_44 : decode cX10_told 44 = .ok (.invokevirtual 68, 3) := by decide +kernel
theorem dX10_told_47 : decode cX10_told 47 = .ok (.ireturn, 1) := by decide +kernel
theorem dJ6_bitCount_0f7a4_0 : decode cJ6_bitCount_0f7a4 0 = .ok (.iload_n 0, 1) := by decide +kernel
theorem dJ6_bitCount_0f7a4_1 : decode cJ6_bitCount_0f7a4 1 = .ok (.iload_n 0, 1) := by decide +kernel
theorem dJ6_bitCount_0f7a4_2 : decode cJ6_bitCount_0f7a4 2 = .ok (.iconst 1, 1) := by decide +kernel
theorem dJ6_bitCount_0f7a4_3 : decode cJ6_bitCount_0f7a4 3 = .ok (.iushr, 1) := by decide +kernel
theorem dJ6_bitCount_0f7a4_4 : decode cJ6_bitCount_0f7a4 4 = .ok (.ldc_w 265, 3) := by decide +kernel
theorem dJ6_bitCount_0f7a4_7 : decode cJ6_bitCount_0f7a4 7 = .ok (.iand, 1) := by decide +kernel
theorem dJ6_bitCount_0f7a4_8 : decode cJ6_bitCount_0f7a4 8 = .ok (.isub, 1) := by decide +kernel
theorem dJ6_bitCount_0f7a4_9 : decode cJ6_bitCount_0f7a4 9 = .ok (.istore_n 0, 1) := by decide +kernel
theorem dJ6_bitCount_0f7a4_10 : decode cJ6_bitCount_0f7a4 10 = .ok (.iload_n 0, 1) := by decide +kernel
theorem dJ6_bitCount_0f7a4_11 : decode cJ6_bitCount_0f7a4 11 = .ok (.ldc_w 266, 3) := by decide +kernel
theorem dJ6_bitCount_0f7a4_14 : decode cJ6_bitCount_0f7a4 14 = .ok (.iand, 1) := by decide +kernel
theorem dJ6_bitCount_0f7a4_15 : decode cJ6_bitCount_0f7a4 15 = .ok (.iload_n 0, 1) := by decide +kernel
theorem dJ6_bitCount_0f7a4_16 : decode cJ6_bitCount_0f7a4 16 = .ok (.iconst 2, 1) := by decide +kernel
theorem dJ6_bitCount_0f7a4_17 : decode cJ6_bitCount_0f7a4 17 = .ok (.iushr, 1) := by decide +kernel
theorem dJ6_bitCount_0f7a4_18 : decode cJ6_bitCount_0f7a4 18 = .ok (.ldc_w 266, 3) := by decide +kernel
theorem dJ6_bitCount_0f7a4_21 : decode cJ6_bitCount_0f7a4 21 = .ok (.iand, 1) := by decide +kernel
theorem dJ6_bitCount_0f7a4_22 : decode cJ6_bitCount_0f7a4 22 = .ok (.iadd, 1) := by decide +kernel
theorem dJ6_bitCount_0f7a4_23 : decode cJ6_bitCount_0f7a4 23 = .ok (.istore_n 0, 1) := by decide +kernel
theorem dJ6_bitCount_0f7a4_24 : decode cJ6_bitCount_0f7a4 24 = .ok (.iload_n 0, 1) := by decide +kernel
theorem dJ6_bitCount_0f7a4_25 : decode cJ6_bitCount_0f7a4 25 = .ok (.iload_n 0, 1) := by decide +kernel
theorem dJ6_bitCount_0f7a4_26 : decode cJ6_bitCount_0f7a4 26 = .ok (.iconst 4, 1) := by decide +kernel
theorem dJ6_bitCount_0f7a4_27 : decode cJ6_bitCount_0f7a4 27 = .ok (.iushr, 1) := by decide +kernel
theorem dJ6_bitCount_0f7a4_28 : decode cJ6_bitCount_0f7a4 28 = .ok (.iadd, 1) := by decide +kernel
theorem dJ6_bitCount_0f7a4_29 : decode cJ6_bitCount_0f7a4 29 = .ok (.ldc_w 267, 3) := by decide +kernel
theorem dJ6_bitCount_0f7a4_32 : decode cJ6_bitCount_0f7a4 32 = .ok (.iand, 1) := by decide +kernel
theorem dJ6_bitCount_0f7a4_33 : decode cJ6_bitCount_0f7a4 33 = .ok (.istore_n 0, 1) := by decide +kernel
theorem dJ6_bitCount_0f7a4_34 : decode cJ6_bitCount_0f7a4 34 = .ok (.iload_n 0, 1) := by decide +kernel
theorem dJ6_bitCount_0f7a4_35 : decode cJ6_bitCount_0f7a4 35 = .ok (.iload_n 0, 1) := by decide +kernel
theorem dJ6_bitCount_0f7a4_36 : decode cJ6_bitCount_0f7a4 36 = .ok (.bipush 8, 2) := by decide +kernel
theorem dJ6_bitCount_0f7a4_38 : decode cJ6_bitCount_0f7a4 38 = .ok (.iushr, 1) := by decide +kernel
theorem dJ6_bitCount_0f7a4_39 : decode cJ6_bitCount_0f7a4 39 = .ok (.iadd, 1) := by decide +kernel
theorem dJ6_bitCount_0f7a4_40 : decode cJ6_bitCount_0f7a4 40 = .ok (.istore_n 0, 1) := by decide +kernel
theorem dJ6_bitCount_0f7a4_41 : decode cJ6_bitCount_0f7a4 41 = .ok (.iload_n 0, 1) := by decide +kernel
theorem dJ6_bitCount_0f7a4_42 : decode cJ6_bitCount_0f7a4 42 = .ok (.iload_n 0, 1) := by decide +kernel
theorem dJ6_bitCount_0f7a4_43 : decode cJ6_bitCount_0f7a4 43 = .ok (.bipush 16, 2) := by decide +kernel
theorem dJ6_bitCount_0f7a4_45 : decode cJ6_bitCount_0f7a4 45 = .ok (.iushr, 1) := by decide +kernel
theorem dJ6_bitCount_0f7a4_46 : decode cJ6_bitCount_0f7a4 46 = .ok (.iadd, 1) := by decide +kernel
theorem dJ6_bitCount_0f7a4_47 : decode cJ6_bitCount_0f7a4 47 = .ok (.istore_n 0, 1) := by decide +kernel
theorem dJ6_bitCount_0f7a4_48 : decode cJ6_bitCount_0f7a4 48 = .ok (.iload_n 0, 1) := by decide +kernel
theorem dJ6_bitCount_0f7a4_49 : decode cJ6_bitCount_0f7a4 49 = .ok (.bipush 63, 2) := by decide +kernel
theorem dJ6_bitCount_0f7a4_51 : decode cJ6_bitCount_0f7a4 51 = .ok (.iand, 1) := by decide +kernel
theorem dJ6_bitCount_0f7a4_52 : decode cJ6_bitCount_0f7a4 52 = .ok (.ireturn, 1) := by decide +kernel
theorem dJ9_max_7cf53_0 : decode cJ9_max_7cf53 0 = .ok (.iload_n 0, 1) := by decide +kernel
theorem dJ9_max_7cf53_1 : decode cJ9_max_7cf53 1 = .ok (.iload_n 1, 1) := by decide +kernel
theorem dJ9_max_7cf53_2 : decode cJ9_max_7cf53 2 = .ok (.if_icmp .lt 7, 3) := by decide +kernel
theorem dJ9_max_7cf53_5 : decode cJ9_max_7cf53 5 = .ok (.iload_n 0, 1) := by decide +kernel
theorem dJ9_max_7cf53_6 : decode cJ9_max_7cf53 6 = .ok (.goto 4, 3) := by decide +kernel
theorem dJ9_max_7cf53_9 : decode cJ9_max_7cf53 9 = .ok (.iload_n 1, 1) := by decide +kernel
theorem dJ9_max_7cf53_10 : decode cJ9_max_7cf53 10 = .ok (.ireturn, 1) := by decide +kernel
theorem dJ9_min_7cf53_0 : decode cJ9_min_7cf53 0 = .ok (.iload_n 0, 1) := by decide +kernel
theorem dJ9_min_7cf53_1 : decode cJ9_min_7cf53 1 = .ok (.iload_n 1, 1) := by decide +kernel
theorem dJ9_min_7cf53_2 : decode cJ9_min_7cf53 2 = .ok (.if_icmp .gt 7, 3) := by decide +kernel
theorem dJ9_min_7cf53_5 : decode cJ9_min_7cf53 5 = .ok (.iload_n 0, 1) := by decide +kernel
theorem dJ9_min_7cf53_6 : decode cJ9_min_7cf53 6 = .ok (.goto 4, 3) := by decide +kernel
theorem dJ9_min_7cf53_9 : decode cJ9_min_7cf53 9 = .ok (.iload_n 1, 1) := by decide +kernel
theorem dJ9_min_7cf53_10 : decode cJ9_min_7cf53 10 = .ok (.ireturn, 1) := by decide +kernel
theorem dJ7_fill_53178_0 : decode cJ7_fill_53178 0 = .ok (.iconst 0, 1) := by decide +kernel
theorem dJ7_fill_53178_1 : decode cJ7_fill_53178 1 = .ok (.istore_n 2, 1) := by decide +kernel
theorem dJ7_fill_53178_2 : decode cJ7_fill_53178 2 = .ok (.aload_n 0, 1) := by decide +kernel
theorem dJ7_fill_53178_3 : decode cJ7_fill_53178 3 = .ok (.arraylength, 1) := by decide +kernel
theorem dJ7_fill_53178_4 : decode cJ7_fill_53178 4 = .ok (.istore_n 3, 1) := by decide +kernel
theorem dJ7_fill_53178_5 : decode cJ7_fill_53178 5 = .ok (.iload_n 2, 1) := by decide +kernel
theorem dJ7_fill_53178_6 : decode cJ7_fill_53178 6 = .ok (.iload_n 3, 1) := by decide +kernel
theorem dJ7_fill_53178_7 : decode cJ7_fill_53178 7 = .ok (.if_icmp .ge 13, 3) := by decide +kernel
theorem dJ7_fill_53178_10 : decode cJ7_fill_53178 10 = .ok (.aload_n 0, 1) := by decide +kernel
theorem dJ7_fill_53178_11 : decode cJ7_fill_53178 11 = .ok (.iload_n 2, 1) := by decide +kernel
theorem dJ7_fill_53178_12 : decode cJ7_fill_53178 12 = .ok (.iload_n 1, 1) := by decide +kernel
theorem dJ7_fill_53178_13 : decode cJ7_fill_53178 13 = .ok (.iastore, 1) := by decide +kernel
theorem dJ7_fill_53178_14 : decode cJ7_fill_53178 14 = .ok (.iinc 2 1, 3) := by decide +kernel
theorem dJ7_fill_53178_17 : decode cJ7_fill_53178 17 = .ok (.goto (-12), 3) := by decide +kernel
theorem dJ7_fill_53178_20 : decode cJ7_fill_53178 20 = .ok (.return_, 1) := by decide +kernel
theorem dL_law_0 : decode cL_law 0 = .ok (.new 7, 3) := by decide +kernel
theorem dL_law_3 : decode cL_law 3 = .ok (.dup, 1) := by decide +kernel
theorem dL_law_4 : decode cL_law 4 = .ok (.invokespecial 9, 3) := by decide +kernel
theorem dL_law_7 : decode cL_law 7 = .ok (.astore_n 1, 1) := by decide +kernel
theorem dL_law_8 : decode cL_law 8 = .ok (.new 10, 3) := by decide +kernel
theorem dL_law_11 : decode cL_law 11 = .ok (.dup, 1) := by decide +kernel
theorem dL_law_12 : decode cL_law 12 = .ok (.invokespecial 12, 3) := by decide +kernel
theorem dL_law_15 : decode cL_law 15 = .ok (.astore_n 2, 1) := by decide +kernel
theorem dL_law_16 : decode cL_law 16 = .ok (.iconst 0, 1) := by decide +kernel
theorem dL_law_17 : decode cL_law 17 = .ok (.istore_n 3, 1) := by decide +kernel
theorem dL_law_18 : decode cL_law 18 = .ok (.iload_n 3, 1) := by decide +kernel
theorem dL_law_19 : decode cL_law 19 = .ok (.aload_n 0, 1) := by decide +kernel
theorem dL_law_20 : decode cL_law 20 = .ok (.arraylength, 1) := by decide +kernel
theorem dL_law_21 : decode cL_law 21 = .ok (.bipush 8, 2) := by decide +kernel
theorem dL_law_23 : decode cL_law 23 = .ok (.isub, 1) := by decide +kernel
theorem dL_law_24 : decode cL_law 24 = .ok (.if_icmp .gt 1438, 3) := by decide +kernel
theorem dL_law_27 : decode cL_law 27 = .ok (.aload_n 0, 1) := by decide +kernel
theorem dL_law_28 : decode cL_law 28 = .ok (.iload_n 3, 1) := by decide +kernel
theorem dL_law_29 : decode cL_law 29 = .ok (.iaload, 1) := by decide +kernel
theorem dL_law_30 : decode cL_law 30 = .ok (.bipush 63, 2) := by decide +kernel
theorem dL_law_32 : decode cL_law 32 = .ok (.iand, 1) := by decide +kernel
theorem dL_law_33 : decode cL_law 33 = .ok (.tableswitch 1423 0 33 #[151, 174, 217, 260, 293, 336, 369, 456, 505, 518, 571, 604, 647, 690, 733, 776, 819, 872, 905, 938, 961, 994, 1037, 1070, 1103, 1136, 1169, 1202, 1245, 1288, 1351, 1374, 1387, 1400], 151) := by decide +kernel
theorem dL_law_184 : decode cL_law 184 = .ok (.aload_n 1, 1) := by decide +kernel
theorem dL_law_185 : decode cL_law 185 = .ok (.aload_n 0, 1) := by decide +kernel
theorem dL_law_186 : decode cL_law 186 = .ok (.iload_n 3, 1) := by decide +kernel
theorem dL_law_187 : decode cL_law 187 = .ok (.iconst 1, 1) := by decide +kernel
theorem dL_law_188 : decode cL_law 188 = .ok (.iadd, 1) := by decide +kernel
theorem dL_law_189 : decode cL_law 189 = .ok (.iaload, 1) := by decide +kernel
theorem dL_law_190 : decode cL_law 190 = .ok (.invokevirtual 13, 3) := by decide +kernel
theorem dL_law_193 : decode cL_law 193 = .ok (.aload_n 2, 1) := by decide +kernel
theorem dL_law_194 : decode cL_law 194 = .ok (.aload_n 0, 1) := by decide +kernel
theorem dL_law_195 : decode cL_law 195 = .ok (.iload_n 3, 1) := by decide +kernel
theorem dL_law_196 : decode cL_law 196 = .ok (.iconst 1, 1) := by decide +kernel
theorem dL_law_197 : decode cL_law 197 = .ok (.iadd, 1) := by decide +kernel
theorem dL_law_198 : decode cL_law 198 = .ok (.iaload, 1) := by decide +kernel
theorem dL_law_199 : decode cL_law 199 = .ok (.invokevirtual 17, 3) := by decide +kernel
theorem dL_law_202 : decode cL_law 202 = .ok (.if_icmp .eq 1254, 3) := by decide +kernel
theorem dL_law_205 : decode cL_law 205 = .ok (.iconst 0, 1) := by decide +kernel
theorem dL_law_206 : decode cL_law 206 = .ok (.ireturn, 1) := by decide +kernel
theorem dL_law_207 : decode cL_law 207 = .ok (.aload_n 1, 1) := by decide +kernel
theorem dL_law_208 : decode cL_law 208 = .ok (.aload_n 0, 1) := by decide +kernel
theorem dL_law_209 : decode cL_law 209 = .ok (.iload_n 3, 1) := by decide +kernel
theorem dL_law_210 : decode cL_law 210 = .ok (.iconst 1, 1) := by decide +kernel
theorem dL_law_211 : decode cL_law 211 = .ok (.iadd, 1) := by decide +kernel
theorem dL_law_212 : decode cL_law 212 = .ok (.iaload, 1) := by decide +kernel
theorem dL_law_213 : decode cL_law 213 = .ok (.aload_n 0, 1) := by decide +kernel
theorem dL_law_214 : decode cL_law 214 = .ok (.iload_n 3, 1) := by decide +kernel
theorem dL_law_215 : decode cL_law 215 = .ok (.iconst 2, 1) := by decide +kernel
theorem dL_law_216 : decode cL_law 216 = .ok (.iadd, 1) := by decide +kernel
theorem dL_law_217 : decode cL_law 217 = .ok (.iaload, 1) := by decide +kernel
theorem dL_law_218 : decode cL_law 218 = .ok (.aload_n 0, 1) := by decide +kernel
theorem dL_law_219 : decode cL_law 219 = .ok (.iload_n 3, 1) := by decide +kernel
theorem dL_law_220 : decode cL_law 220 = .ok (.iconst 3, 1) := by decide +kernel
theorem dL_law_221 : decode cL_law 221 = .ok (.iadd, 1) := by decide +kernel
theorem dL_law_222 : decode cL_law 222 = .ok (.iaload, 1) := by decide +kernel
theorem dL_law_223 : decode cL_law 223 = .ok (.invokevirtual 18, 3) := by decide +kernel
theorem dL_law_226 : decode cL_law 226 = .ok (.aload_n 2, 1) := by decide +kernel
theorem dL_law_227 : decode cL_law 227 = .ok (.aload_n 0, 1) := by decide +kernel
theorem dL_law_228 : decode cL_law 228 = .ok (.iload_n 3, 1) := by decide +kernel
theorem dL_law_229 : decode cL_law 229 = .ok (.iconst 1, 1) := by decide +kernel
theorem dL_law_230 : decode cL_law 230 = .ok (.iadd, 1) := by decide +kernel
theorem dL_law_231 : decode cL_law 231 = .ok (.iaload, 1) := by decide +kernel
theorem dL_law_232 : decode cL_law 232 = .ok (.aload_n 0, 1) := by decide +kernel
theorem dL_law_233 : decode cL_law 233 = .ok (.iload_n 3, 1) := by decide +kernel
theorem dL_law_234 : decode cL_law 234 = .ok (.iconst 2, 1) := by decide +kernel
theorem dL_law_235 : decode cL_law 235 = .ok (.iadd, 1) := by decide +kernel
theorem dL_law_236 : decode cL_law 236 = .ok (.iaload, 1) := by decide +kernel
theorem dL_law_237 : decode cL_law 237 = .ok (.aload_n 0, 1) := by decide +kernel
theorem dL_law_238 : decode cL_law 238 = .ok (.iload_n 3, 1) := by decide +kernel
theorem dL_law_239 : decode cL_law 239 = .ok (.iconst 3, 1) := by decide +kernel
theorem dL_law_240 : decode cL_law 240 = .ok (.iadd, 1) := by decide +kernel
theorem dL_law_241 : decode cL_law 241 = .ok (.iaload, 1) := by decide +kernel
theorem dL_law_242 : decode cL_law 242 = .ok (.invokevirtual 22, 3) := by decide +kernel
theorem dL_law_245 : decode cL_law 245 = .ok (.if_icmp .eq 1211, 3) := by decide +kernel
theorem dL_law_248 : decode cL_law 248 = .ok (.iconst 0, 1) := by decide +kernel
theorem dL_law_249 : decode cL_law 249 = .ok (.ireturn, 1) := by decide +kernel
theorem dL_law_250 : decode cL_law 250 = .ok (.aload_n 1, 1) := by decide +kernel
theorem dL_law_251 : decode cL_law 251 = .ok (.aload_n 0, 1) := by decide +kernel
theorem dL_law_252 : decode cL_law 252 = .ok (.iload_n 3, 1) := by decide +kernel
theorem dL_law_253 : decode cL_law 253 = .ok (.iconst 1, 1) := by decide +kernel
theorem dL_law_254 : decode cL_law 254 = .ok (.iadd, 1) := by decide +kernel
theorem dL_law_255 : decode cL_law 255 = .ok (.iaload, 1) := by decide +kernel
theorem dL_law_256 : decode cL_law 256 = .ok (.aload_n 0, 1) := by decide +kernel
theorem dL_law_257 : decode cL_law 257 = .ok (.iload_n 3, 1) := by decide +kernel
theorem dL_law_258 : decode cL_law 258 = .ok (.iconst 2, 1) := by decide +kernel
theorem dL_law_259 : decode cL_law 259 = .ok (.iadd, 1) := by decide +kernel
theorem dL_law_260 : decode cL_law 260 = .ok (.iaload, 1) := by decide +kernel
theorem dL_law_261 : decode cL_law 261 = .ok (.aload_n 0, 1) := by decide +kernel
theorem dL_law_262 : decode cL_law 262 = .ok (.iload_n 3, 1) := by decide +kernel
theorem dL_law_263 : decode cL_law 263 = .ok (.iconst 3, 1) := by decide +kernel
theorem dL_law_264 : decode cL_law 264 = .ok (.iadd, 1) := by decide +kernel
theorem dL_law_265 : decode cL_law 265 = .ok (.iaload, 1) := by decide +kernel
theorem dL_law_266 : decode cL_law 266 = .ok (.invokevirtual 23, 3) := by decide +kernel
theorem dL_law_269 : decode cL_law 269 = .ok (.aload_n 2, 1) := by decide +kernel
end
section
theorem dL_law_270 : decode cL_law 270 = .ok (.aload_n 0, 1) := by decide +kernel
theorem dL_law_271 : decode cL_law 271 = .ok (.iload_n 3, 1) := by decide +kernel
theorem dL_law_272 : decode cL_law 272 = .ok (.iconst 1, 1) := by decide +kernel
theorem dL_law_273 : decode cL_law 273 = .ok (.iadd, 1) := by decide +kernel
theorem dL_law_274 : decode cL_law 274 = .ok (.iaload, 1) := by decide +kernel
theorem dL_law_275 : decode cL_law 275 = .ok (.aload_n 0, 1) := by decide +kernel
theorem dL_law_276 : decode cL_law 276 = .ok (.iload_n 3, 1) := by decide +kernel
theorem dL_law_277 : decode cL_law 277 = .ok (.iconst 2, 1) := by decide +kernel
theorem dL_law_278 : decode cL_law 278 = .ok (.iadd, 1) := by decide +kernel
theorem dL_law_279 : decode cL_law 279 = .ok (.iaload, 1) := by decide +kernel
theorem dL_law_280 : decode cL_law 280 = .ok (.aload_n 0, 1) := by decide +kernel
theorem dL_law_281 : decode cL_law 281 = .ok (.iload_n 3, 1) := by decide +kernel
theorem dL_law_282 : decode cL_law 282 = .ok (.iconst 3, 1) := by decide +kernel
theorem dL_law_283 : decode cL_law 283 = .ok (.iadd, 1) := by decide +kernel
theorem dL_law_284 : decode cL_law 284 = .ok (.iaload, 1) := by decide +kernel
theorem dL_law_285 : decode cL_law 285 = .ok (.invokevirtual 26, 3) := by decide +kernel
theorem dL_law_288 : decode cL_law 288 = .ok (.if_icmp .eq 1168, 3) := by decide +kernel
theorem dL_law_291 : decode cL_law 291 = .ok (.iconst 0, 1) := by decide +kernel
theorem dL_law_292 : decode cL_law 292 = .ok (.ireturn, 1) := by decide +kernel
theorem dL_law_293 : decode cL_law 293 = .ok (.aload_n 1, 1) := by decide +kernel
theorem dL_law_294 : decode cL_law 294 = .ok (.aload_n 0, 1) := by decide +kernel
theorem dL_law_295 : decode cL_law 295 = .ok (.iload_n 3, 1) := by decide +kernel
theorem dL_law_296 : decode cL_law 296 = .ok (.iconst 1, 1) := by decide +kernel
theorem dL_law_297 : decode cL_law 297 = .ok (.iadd, 1) := by decide +kernel
theorem dL_law_298 : decode cL_law 298 = .ok (.iaload, 1) := by decide +kernel
theorem dL_law_299 : decode cL_law 299 = .ok (.aload_n 0, 1) := by decide +kernel
theorem dL_law_300 : decode cL_law 300 = .ok (.iload_n 3, 1) := by decide +kernel
theorem dL_law_301 : decode cL_law 301 = .ok (.iconst 2, 1) := by decide +kernel
theorem dL_law_302 : decode cL_law 302 = .ok (.iadd, 1) := by decide +kernel
theorem dL_law_303 : decode cL_law 303 = .ok (.iaload, 1) := by decide +kernel
theorem dL_law_304 : decode cL_law 304 = .ok (.invokevirtual 27, 3) := by decide +kernel
theorem dL_law_307 : decode cL_law 307 = .ok (.aload_n 2, 1) := by decide +kernel
theorem dL_law_308 : decode cL_law 308 = .ok (.aload_n 0, 1) := by decide +kernel
theorem dL_law_309 : decode cL_law 309 = .ok (.iload_n 3, 1) := by decide +kernel
theorem dL_law_310 : decode cL_law 310 = .ok (.iconst 1, 1) := by decide +kernel
theorem dL_law_311 : decode cL_law 311 = .ok (.iadd, 1) := by decide +kernel
theorem dL_law_312 : decode cL_law 312 = .ok (.iaload, 1) := by decide +kernel
theorem dL_law_313 : decode cL_law 313 = .ok (.aload_n 0, 1) := by decide +kernel
theorem dL_law_314 : decode cL_law 314 = .ok (.iload_n 3, 1) := by decide +kernel
theorem dL_law_315 : decode cL_law 315 = .ok (.iconst 2, 1) := by decide +kernel
theorem dL_law_316 : decode cL_law 316 = .ok (.iadd, 1) := by decide +kernel
theorem dL_law_317 : decode cL_law 317 = .ok (.iaload, 1) := by decide +kernel
theorem dL_law_318 : decode cL_law 318 = .ok (.invokevirtual 31, 3) := by decide +kernel
theorem dL_law_321 : decode cL_law 321 = .ok (.if_icmp .eq 1135, 3) := by decide +kernel
theorem dL_law_324 : decode cL_law 324 = .ok (.iconst 0, 1) := by decide +kernel
theorem dL_law_325 : decode cL_law 325 = .ok (.ireturn, 1) := by decide +kernel
theorem dL_law_326 : decode cL_law 326 = .ok (.aload_n 1, 1) := by decide +kernel
theorem dL_law_327 : decode cL_law 327 = .ok (.aload_n 0, 1) := by decide +kernel
theorem dL_law_328 : decode cL_law 328 = .ok (.iload_n 3, 1) := by decide +kernel
theorem dL_law_329 : decode cL_law 329 = .ok (.iconst 1, 1) := by decide +kernel
theorem dL_law_330 : decode cL_law 330 = .ok (.iadd, 1) := by decide +kernel
theorem dL_law_331 : decode cL_law 331 = .ok (.iaload, 1) := by decide +kernel
theorem dL_law_332 : decode cL_law 332 = .ok (.aload_n 0, 1) := by decide +kernel
theorem dL_law_333 : decode cL_law 333 = .ok (.iload_n 3, 1) := by decide +kernel
theorem dL_law_334 : decode cL_law 334 = .ok (.iconst 2, 1) := by decide +kernel
theorem dL_law_335 : decode cL_law 335 = .ok (.iadd, 1) := by decide +kernel
theorem dL_law_336 : decode cL_law 336 = .ok (.iaload, 1) := by decide +kernel
theorem dL_law_337 : decode cL_law 337 = .ok (.aload_n 0, 1) := by decide +kernel
theorem dL_law_338 : decode cL_law 338 = .ok (.iload_n 3, 1) := by decide +kernel
theorem dL_law_339 : decode cL_law 339 = .ok (.iconst 3, 1) := by decide +kernel
theorem dL_law_340 : decode cL_law 340 = .ok (.iadd, 1) := by decide +kernel
theorem dL_law_341 : decode cL_law 341 = .ok (.iaload, 1) := by decide +kernel
theorem dL_law_342 : decode cL_law 342 = .ok (.invokevirtual 32, 3) := by decide +kernel
theorem dL_law_345 : decode cL_law 345 = .ok (.aload_n 2, 1) := by decide +kernel
theorem dL_law_346 : decode cL_law 346 = .ok (.aload_n 0, 1) := by decide +kernel
theorem dL_law_347 : decode cL_law 347 = .ok (.iload_n 3, 1) := by decide +kernel
theorem dL_law_348 : decode cL_law 348 = .ok (.iconst 1, 1) := by decide +kernel
theorem dL_law_349 : decode cL_law 349 = .ok (.iadd, 1) := by decide +kernel
theorem dL_law_350 : decode cL_law 350 = .ok (.iaload, 1) := by decide +kernel
theorem dL_law_351 : decode cL_law 351 = .ok (.aload_n 0, 1) := by decide +kernel
theorem dL_law_352 : decode cL_law 352 = .ok (.iload_n 3, 1) := by decide +kernel
theorem dL_law_353 : decode cL_law 353 = .ok (.iconst 2, 1) := by decide +kernel
theorem dL_law_354 : decode cL_law 354 = .ok (.iadd, 1) := by decide +kernel
theorem dL_law_355 : decode cL_law 355 = .ok (.iaload, 1) := by decide +kernel
theorem dL_law_356 : decode cL_law 356 = .ok (.aload_n 0, 1) := by decide +kernel
theorem dL_law_357 : decode cL_law 357 = .ok (.iload_n 3, 1) := by decide +kernel
theorem dL_law_358 : decode cL_law 358 = .ok (.iconst 3, 1) := by decide +kernel
theorem dL_law_359 : decode cL_law 359 = .ok (.iadd, 1) := by decide +kernel
theorem dL_law_360 : decode cL_law 360 = .ok (.iaload, 1) := by decide +kernel
theorem dL_law_361 : decode cL_law 361 = .ok (.invokevirtual 35, 3) := by decide +kernel
theorem dL_law_364 : decode cL_law 364 = .ok (.if_icmp .eq 1092, 3) := by decide +kernel
theorem dL_law_367 : decode cL_law 367 = .ok (.iconst 0, 1) := by decide +kernel
theorem dL_law_368 : decode cL_law 368 = .ok (.ireturn, 1) := by decide +kernel
theorem dL_law_369 : decode cL_law 369 = .ok (.aload_n 1, 1) := by decide +kernel
theorem dL_law_370 : decode cL_law 370 = .ok (.aload_n 0, 1) := by decide +kernel
theorem dL_law_371 : decode cL_law 371 = .ok (.iload_n 3, 1) := by decide +kernel
theorem dL_law_372 : decode cL_law 372 = .ok (.iconst 1, 1) := by decide +kernel
theorem dL_law_373 : decode cL_law 373 = .ok (.iadd, 1) := by decide +kernel
theorem dL_law_374 : decode cL_law 374 = .ok (.iaload, 1) := by decide +kernel
theorem dL_law_375 : decode cL_law 375 = .ok (.aload_n 0, 1) := by decide +kernel
theorem dL_law_376 : decode cL_law 376 = .ok (.iload_n 3, 1) := by decide +kernel
theorem dL_law_377 : decode cL_law 377 = .ok (.iconst 2, 1) := by decide +kernel
theorem dL_law_378 : decode cL_law 378 = .ok (.iadd, 1) := by decide +kernel
theorem dL_law_379 : decode cL_law 379 = .ok (.iaload, 1) := by decide +kernel
theorem dL_law_380 : decode cL_law 380 = .ok (.invokevirtual 36, 3) := by decide +kernel
theorem dL_law_383 : decode cL_law 383 = .ok (.aload_n 2, 1) := by decide +kernel
theorem dL_law_384 : decode cL_law 384 = .ok (.aload_n 0, 1) := by decide +kernel
theorem dL_law_385 : decode cL_law 385 = .ok (.iload_n 3, 1) := by decide +kernel
theorem dL_law_386 : decode cL_law 386 = .ok (.iconst 1, 1) := by decide +kernel
theorem dL_law_387 : decode cL_law 387 = .ok (.iadd, 1) := by decide +kernel
theorem dL_law_388 : decode cL_law 388 = .ok (.iaload, 1) := by decide +kernel
theorem dL_law_389 : decode cL_law 389 = .ok (.aload_n 0, 1) := by decide +kernel
theorem dL_law_390 : decode cL_law 390 = .ok (.iload_n 3, 1) := by decide +kernel
theorem dL_law_391 : decode cL_law 391 = .ok (.iconst 2, 1) := by decide +kernel
theorem dL_law_392 : decode cL_law 392 = .ok (.iadd, 1) := by decide +kernel
theorem dL_law_393 : decode cL_law 393 = .ok (.iaload, 1) := by decide +kernel
theorem dL_law_394 : decode cL_law 394 = .ok (.invokevirtual 39, 3) := by decide +kernel
theorem dL_law_397 : decode cL_law 397 = .ok (.if_icmp .eq 1059, 3) := by decide +kernel
theorem dL_law_400 : decode cL_law 400 = .ok (.iconst 0, 1) := by decide +kernel
theorem dL_law_401 : decode cL_law 401 = .ok (.ireturn, 1) := by decide +kernel
theorem dL_law_402 : decode cL_law 402 = .ok (.aload_n 1, 1) := by decide +kernel
theorem dL_law_403 : decode cL_law 403 = .ok (.aload_n 0, 1) := by decide +kernel
theorem dL_law_404 : decode cL_law 404 = .ok (.iload_n 3, 1) := by decide +kernel
theorem dL_law_405 : decode cL_law 405 = .ok (.iconst 1, 1) := by decide +kernel
theorem dL_law_406 : decode cL_law 406 = .ok (.iadd, 1) := by decide +kernel
theorem dL_law_407 : decode cL_law 407 = .ok (.iaload, 1) := by decide +kernel
theorem dL_law_408 : decode cL_law 408 = .ok (.aload_n 0, 1) := by decide +kernel
theorem dL_law_409 : decode cL_law 409 = .ok (.iload_n 3, 1) := by decide +kernel
theorem dL_law_410 : decode cL_law 410 = .ok (.iconst 2, 1) := by decide +kernel
theorem dL_law_411 : decode cL_law 411 = .ok (.iadd, 1) := by decide +kernel
theorem dL_law_412 : decode cL_law 412 = .ok (.iaload, 1) := by decide +kernel
theorem dL_law_413 : decode cL_law 413 = .ok (.aload_n 0, 1) := by decide +kernel
theorem dL_law_414 : decode cL_law 414 = .ok (.iload_n 3, 1) := by decide +kernel
theorem dL_law_415 : decode cL_law 415 = .ok (.iconst 3, 1) := by decide +kernel
theorem dL_law_416 : decode cL_law 416 = .ok (.iadd, 1) := by decide +kernel
theorem dL_law_417 : decode cL_law 417 = .ok (.iaload, 1) := by decide +kernel
theorem dL_law_418 : decode cL_law 418 = .ok (.aload_n 0, 1) := by decide +kernel
theorem dL_law_419 : decode cL_law 419 = .ok (.iload_n 3, 1) := by decide +kernel
theorem dL_law_420 : decode cL_law 420 = .ok (.iconst 4, 1) := by decide +kernel
theorem dL_law_421 : decode cL_law 421 = .ok (.iadd, 1) := by decide +kernel
theorem dL_law_422 : decode cL_law 422 = .ok (.iaload, 1) := by decide +kernel
theorem dL_law_423 : decode cL_law 423 = .ok (.aload_n 0, 1) := by decide +kernel
theorem dL_law_424 : decode cL_law 424 = .ok (.iload_n 3, 1) := by decide +kernel
theorem dL_law_425 : decode cL_law 425 = .ok (.iconst 5, 1) := by decide +kernel
theorem dL_law_426 : decode cL_law 426 = .ok (.iadd, 1) := by decide +kernel
theorem dL_law_427 : decode cL_law 427 = .ok (.iaload, 1) := by decide +kernel
theorem dL_law_428 : decode cL_law 428 = .ok (.aload_n 0, 1) := by decide +kernel
theorem dL_law_429 : decode cL_law 429 = .ok (.iload_n 3, 1) := by decide +kernel
theorem dL_law_430 : decode cL_law 430 = .ok (.bipush 6, 2) := by decide +kernel
theorem dL_law_432 : decode cL_law 432 = .ok (.iadd, 1) := by decide +kernel
theorem dL_law_433 : decode cL_law 433 = .ok (.iaload, 1) := by decide +kernel
theorem dL_law_434 : decode cL_law 434 = .ok (.aload_n 0, 1) := by decide +kernel
theorem dL_law_435 : decode cL_law 435 = .ok (.iload_n 3, 1) := by decide +kernel
theorem dL_law_436 : decode cL_law 436 = .ok (.bipush 7, 2) := by decide +kernel
theorem dL_law_438 : decode cL_law 438 = .ok (.iadd, 1) := by decide +kernel
theorem dL_law_439 : decode cL_law 439 = .ok (.iaload, 1) := by decide +kernel
theorem dL_law_440 : decode cL_law 440 = .ok (.invokevirtual 40, 3) := by decide +kernel
theorem dL_law_443 : decode cL_law 443 = .ok (.aload_n 2, 1) := by decide +kernel
theorem dL_law_444 : decode cL_law 444 = .ok (.aload_n 0, 1) := by decide +kernel
theorem dL_law_445 : decode cL_law 445 = .ok (.iload_n 3, 1) := by decide +kernel
theorem dL_law_446 : decode cL_law 446 = .ok (.iconst 1, 1) := by decide +kernel
theorem dL_law_447 : decode cL_law 447 = .ok (.iadd, 1) := by decide +kernel
theorem dL_law_448 : decode cL_law 448 = .ok (.iaload, 1) := by decide +kernel
theorem dL_law_449 : decode cL_law 449 = .ok (.aload_n 0, 1) := by decide +kernel
theorem dL_law_450 : decode cL_law 450 = .ok (.iload_n 3, 1) := by decide +kernel
theorem dL_law_451 : decode cL_law 451 = .ok (.iconst 2, 1) := by decide +kernel
theorem dL_law_452 : decode cL_law 452 = .ok (.iadd, 1) := by decide +kernel
theorem dL_law_453 : decode cL_law 453 = .ok (.iaload, 1) := by decide +kernel
theorem dL_law_454 : decode cL_law 454 = .ok (.aload_n 0, 1) := by decide +kernel
theorem dL_law_455 : decode cL_law 455 = .ok (.iload_n 3, 1) := by decide +kernel
theorem dL_law_456 : decode cL_law 456 = .ok (.iconst 3, 1) := by decide +kernel
theorem dL_law_457 : decode cL_law 457 = .ok (.iadd, 1) := by decide +kernel
theorem dL_law_458 : decode cL_law 458 = .ok (.iaload, 1) := by decide +kernel
theorem dL_law_459 : decode cL_law 459 = .ok (.aload_n 0, 1) := by decide +kernel
theorem dL_law_460 : decode cL_law 460 = .ok (.iload_n 3, 1) := by decide +kernel
theorem dL_law_461 : decode cL_law 461 = .ok (.iconst 4, 1) := by decide +kernel
theorem dL_law_462 : decode cL_law 462 = .ok (.iadd, 1) := by decide +kernel
theorem dL_law_463 : decode cL_law 463 = .ok (.iaload, 1) := by decide +kernel
theorem dL_law_464 : decode cL_law 464 = .ok (.aload_n 0, 1) := by decide +kernel
theorem dL_law_465 : decode cL_law 465 = .ok (.iload_n 3, 1) := by decide +kernel
theorem dL_law_466 : decode cL_law 466 = .ok (.iconst 5, 1) := by decide +kernel
theorem dL_law_467 : decode cL_law 467 = .ok (.iadd, 1) := by decide +kernel
theorem dL_law_468 : decode cL_law 468 = .ok (.iaload, 1) := by decide +kernel
theorem dL_law_469 : decode cL_law 469 = .ok (.aload_n 0, 1) := by decide +kernel
theorem dL_law_470 : decode cL_law 470 = .ok (.iload_n 3, 1) := by decide +kernel
theorem dL_law_471 : decode cL_law 471 = .ok (.bipush 6, 2) := by decide +kernel
theorem dL_law_473 : decode cL_law 473 = .ok (.iadd, 1) := by decide +kernel
theorem dL_law_474 : decode cL_law 474 = .ok (.iaload, 1) := by decide +kernel
theorem dL_law_475 : decode cL_law 475 = .ok (.aload_n 0, 1) := by decide +kernel
theorem dL_law_476 : decode cL_law 476 = .ok (.iload_n 3, 1) := by decide +kernel
theorem dL_law_477 : decode cL_law 477 = .ok (.bipush 7, 2) := by decide +kernel
theorem dL_law_479 : decode cL_law 479 = .ok (.iadd, 1) := by decide +kernel
theorem dL_law_480 : decode cL_law 480 = .ok (.iaload, 1) := by decide +kernel
theorem dL_law_481 : decode cL_law 481 = .ok (.invokevirtual 44, 3) := by decide +kernel
theorem dL_law_484 : decode cL_law 484 = .ok (.if_icmp .eq 972, 3) := by decide +kernel
theorem dL_law_487 : decode cL_law 487 = .ok (.iconst 0, 1) := by decide +kernel
theorem dL_law_488 : decode cL_law 488 = .ok (.ireturn, 1) := by decide +kernel
theorem dL_law_489 : decode cL_law 489 = .ok (.aload_n 1, 1) := by decide +kernel
theorem dL_law_490 : decode cL_law 490 = .ok (.aload_n 0, 1) := by decide +kernel
theorem dL_law_491 : decode cL_law 491 = .ok (.iload_n 3, 1) := by decide +kernel
theorem dL_law_492 : decode cL_law 492 = .ok (.iconst 1, 1) := by decide +kernel
theorem dL_law_493 : decode cL_law 493 = .ok (.iadd, 1) := by decide +kernel
theorem dL_law_494 : decode cL_law 494 = .ok (.iaload, 1) := by decide +kernel
theorem dL_law_495 : decode cL_law 495 = .ok (.aload_n 0, 1) := by decide +kernel
theorem dL_law_496 : decode cL_law 496 = .ok (.iload_n 3, 1) := by decide +kernel
theorem dL_law_497 : decode cL_law 497 = .ok (.iconst 2, 1) := by decide +kernel
theorem dL_law_498 : decode cL_law 498 = .ok (.iadd, 1) := by decide +kernel
theorem dL_law_499 : decode cL_law 499 = .ok (.iaload, 1) := by decide +kernel
theorem dL_law_500 : decode cL_law 500 = .ok (.ifCond .eq 7, 3) := by decide +kernel
theorem dL_law_503 : decode cL_law 503 = .ok (.iconst 1, 1) := by decide +kernel
theorem dL_law_504 : decode cL_law 504 = .ok (.goto 4, 3) := by decide +kernel
theorem dL_law_507 : decode cL_law 507 = .ok (.iconst 0, 1) := by decide +kernel
theorem dL_law_508 : decode cL_law 508 = .ok (.invokevirtual 45, 3) := by decide +kernel
theorem dL_law_511 : decode cL_law 511 = .ok (.aload_n 2, 1) := by decide +kernel
theorem dL_law_512 : decode cL_law 512 = .ok (.aload_n 0, 1) := by decide +kernel
theorem dL_law_513 : decode cL_law 513 = .ok (.iload_n 3, 1) := by decide +kernel
theorem dL_law_514 : decode cL_law 514 = .ok (.iconst 1, 1) := by decide +kernel
theorem dL_law_515 : decode cL_law 515 = .ok (.iadd, 1) := by decide +kernel
theorem dL_law_516 : decode cL_law 516 = .ok (.iaload, 1) := by decide +kernel
theorem dL_law_517 : decode cL_law 517 = .ok (.aload_n 0, 1) := by decide +kernel
theorem dL_law_518 : decode cL_law 518 = .ok (.iload_n 3, 1) := by decide +kernel
theorem dL_law_519 : decode cL_law 519 = .ok (.iconst 2, 1) := by decide +kernel
theorem dL_law_520 : decode cL_law 520 = .ok (.iadd, 1) := by decide +kernel
theorem dL_law_521 : decode cL_law 521 = .ok (.iaload, 1) := by decide +kernel
theorem dL_law_522 : decode cL_law 522 = .ok (.ifCond .eq 7, 3) := by decide +kernel
theorem dL_law_525 : decode cL_law 525 = .ok (.iconst 1, 1) := by decide +kernel
theorem dL_law_526 : decode cL_law 526 = .ok (.goto 4, 3) := by decide +kernel
theorem dL_law_529 : decode cL_law 529 = .ok (.iconst 0, 1) := by decide +kernel
theorem dL_law_530 : decode cL_law 530 = .ok (.invokevirtual 49, 3) := by decide +kernel
theorem dL_law_533 : decode cL_law 533 = .ok (.if_icmp .eq 923, 3) := by decide +kernel
theorem dL_law_536 : decode cL_law 536 = .ok (.iconst 0, 1) := by decide +kernel
theorem dL_law_537 : decode cL_law 537 = .ok (.ireturn, 1) := by decide +kernel
theorem dL_law_538 : decode cL_law 538 = .ok (.aload_n 1, 1) := by decide +kernel
theorem dL_law_539 : decode cL_law 539 = .ok (.invokevirtual 50, 3) := by decide +kernel
theorem dL_law_542 : decode cL_law 542 = .ok (.aload_n 2, 1) := by decide +kernel
theorem dL_law_543 : decode cL_law 543 = .ok (.invokevirtual 54, 3) := by decide +kernel
theorem dL_law_546 : decode cL_law 546 = .ok (.if_icmp .eq 910, 3) := by decide +kernel
theorem dL_law_549 : decode cL_law 549 = .ok (.iconst 0, 1) := by decide +kernel
theorem dL_law_550 : decode cL_law 550 = .ok (.ireturn, 1) := by decide +kernel
theorem dL_law_551 : decode cL_law 551 = .ok (.aload_n 1, 1) := by decide +kernel
theorem dL_law_552 : decode cL_law 552 = .ok (.aload_n 0, 1) := by decide +kernel
theorem dL_law_553 : decode cL_law 553 = .ok (.iload_n 3, 1) := by decide +kernel
theorem dL_law_554 : decode cL_law 554 = .ok (.iconst 1, 1) := by decide +kernel
theorem dL_law_555 : decode cL_law 555 = .ok (.iadd, 1) := by decide +kernel
theorem dL_law_556 : decode cL_law 556 = .ok (.iaload, 1) := by decide +kernel
theorem dL_law_557 : decode cL_law 557 = .ok (.aload_n 0, 1) := by decide +kernel
theorem dL_law_558 : decode cL_law 558 = .ok (.iload_n 3, 1) := by decide +kernel
theorem dL_law_559 : decode cL_law 559 = .ok (.iconst 2, 1) := by decide +kernel
theorem dL_law_560 : decode cL_law 560 = .ok (.iadd, 1) := by decide +kernel
theorem dL_law_561 : decode cL_law 561 = .ok (.iaload, 1) := by decide +kernel
theorem dL_law_562 : decode cL_law 562 = .ok (.aload_n 0, 1) := by decide +kernel
theorem dL_law_563 : decode cL_law 563 = .ok (.iload_n 3, 1) := by decide +kernel
theorem dL_law_564 : decode cL_law 564 = .ok (.iconst 3, 1) := by decide +kernel
theorem dL_law_565 : decode cL_law 565 = .ok (.iadd, 1) := by decide +kernel
theorem dL_law_566 : decode cL_law 566 = .ok (.iaload, 1) := by decide +kernel
theorem dL_law_567 : decode cL_law 567 = .ok (.aload_n 0, 1) := by decide +kernel
theorem dL_law_568 : decode cL_law 568 = .ok (.iload_n 3, 1) := by decide +kernel
theorem dL_law_569 : decode cL_law 569 = .ok (.iconst 4, 1) := by decide +kernel
theorem dL_law_570 : decode cL_law 570 = .ok (.iadd, 1) := by decide +kernel
theorem dL_law_571 : decode cL_law 571 = .ok (.iaload, 1) := by decide +kernel
theorem dL_law_572 : decode cL_law 572 = .ok (.invokevirtual 55, 3) := by decide +kernel
theorem dL_law_575 : decode cL_law 575 = .ok (.aload_n 2, 1) := by decide +kernel
theorem dL_law_576 : decode cL_law 576 = .ok (.aload_n 0, 1) := by decide +kernel
theorem dL_law_577 : decode cL_law 577 = .ok (.iload_n 3, 1) := by decide +kernel
theorem dL_law_578 : decode cL_law 578 = .ok (.iconst 1, 1) := by decide +kernel
theorem dL_law_579 : decode cL_law 579 = .ok (.iadd, 1) := by decide +kernel
theorem dL_law_580 : decode cL_law 580 = .ok (.iaload, 1) := by decide +kernel
theorem dL_law_581 : decode cL_law 581 = .ok (.aload_n 0, 1) := by decide +kernel
theorem dL_law_582 : decode cL_law 582 = .ok (.iload_n 3, 1) := by decide +kernel
theorem dL_law_583 : decode cL_law 583 = .ok (.iconst 2, 1) := by decide +kernel
theorem dL_law_584 : decode cL_law 584 = .ok (.iadd, 1) := by decide +kernel
theorem dL_law_585 : decode cL_law 585 = .ok (.iaload, 1) := by decide +kernel
theorem dL_law_586 : decode cL_law 586 = .ok (.aload_n 0, 1) := by decide +kernel
theorem dL_law_587 : decode cL_law 587 = .ok (.iload_n 3, 1) := by decide +kernel
theorem dL_law_588 : decode cL_law 588 = .ok (.iconst 3, 1) := by decide +kernel
theorem dL_law_589 : decode cL_law 589 = .ok (.iadd, 1) := by decide +kernel
theorem dL_law_590 : decode cL_law 590 = .ok (.iaload, 1) := by decide +kernel
theorem dL_law_591 : decode cL_law 591 = .ok (.aload_n 0, 1) := by decide +kernel
theorem dL_law_592 : decode cL_law 592 = .ok (.iload_n 3, 1) := by decide +kernel
theorem dL_law_593 : decode cL_law 593 = .ok (.iconst 4, 1) := by decide +kernel
theorem dL_law_594 : decode cL_law 594 = .ok (.iadd, 1) := by decide +kernel
theorem dL_law_595 : decode cL_law 595 = .ok (.iaload, 1) := by decide +kernel
theorem dL_law_596 : decode cL_law 596 = .ok (.invokevirtual 59, 3) := by decide +kernel
theorem dL_law_599 : decode cL_law 599 = .ok (.if_icmp .eq 857, 3) := by decide +kernel
theorem dL_law_602 : decode cL_law 602 = .ok (.iconst 0, 1) := by decide +kernel
theorem dL_law_603 : decode cL_law 603 = .ok (.ireturn, 1) := by decide +kernel
theorem dL_law_604 : decode cL_law 604 = .ok (.aload_n 1, 1) := by decide +kernel
theorem dL_law_605 : decode cL_law 605 = .ok (.aload_n 0, 1) := by decide +kernel
theorem dL_law_606 : decode cL_law 606 = .ok (.iload_n 3, 1) := by decide +kernel
theorem dL_law_607 : decode cL_law 607 = .ok (.iconst 1, 1) := by decide +kernel
theorem dL_law_608 : decode cL_law 608 = .ok (.iadd, 1) := by decide +kernel
theorem dL_law_609 : decode cL_law 609 = .ok (.iaload, 1) := by decide +kernel
theorem dL_law_610 : decode cL_law 610 = .ok (.aload_n 0, 1) := by decide +kernel
theorem dL_law_611 : decode cL_law 611 = .ok (.iload_n 3, 1) := by decide +kernel
theorem dL_law_612 : decode cL_law 612 = .ok (.iconst 2, 1) := by decide +kernel
theorem dL_law_613 : decode cL_law 613 = .ok (.iadd, 1) := by decide +kernel
theorem dL_law_614 : decode cL_law 614 = .ok (.iaload, 1) := by decide +kernel
theorem dL_law_615 : decode cL_law 615 = .ok (.invokevirtual 60, 3) := by decide +kernel
theorem dL_law_618 : decode cL_law 618 = .ok (.aload_n 2, 1) := by decide +kernel
theorem dL_law_619 : decode cL_law 619 = .ok (.aload_n 0, 1) := by decide +kernel
theorem dL_law_620 : decode cL_law 620 = .ok (.iload_n 3, 1) := by decide +kernel
theorem dL_law_621 : decode cL_law 621 = .ok (.iconst 1, 1) := by decide +kernel
theorem dL_law_622 : decode cL_law 622 = .ok (.iadd, 1) := by decide +kernel
theorem dL_law_623 : decode cL_law 623 = .ok (.iaload, 1) := by decide +kernel
theorem dL_law_624 : decode cL_law 624 = .ok (.aload_n 0, 1) := by decide +kernel
theorem dL_law_625 : decode cL_law 625 = .ok (.iload_n 3, 1) := by decide +kernel
theorem dL_law_626 : decode cL_law 626 = .ok (.iconst 2, 1) := by decide +kernel
theorem dL_law_627 : decode cL_law 627 = .ok (.iadd, 1) := by decide +kernel
theorem dL_law_628 : decode cL_law 628 = .ok (.iaload, 1) := by decide +kernel
theorem dL_law_629 : decode cL_law 629 = .ok (.invokevirtual 63, 3) := by decide +kernel
theorem dL_law_632 : decode cL_law 632 = .ok (.if_icmp .eq 824, 3) := by decide +kernel
theorem dL_law_635 : decode cL_law 635 = .ok (.iconst 0, 1) := by decide +kernel
theorem dL_law_636 : decode cL_law 636 = .ok (.ireturn, 1) := by decide +kernel
theorem dL_law_637 : decode cL_law 637 = .ok (.aload_n 1, 1) := by decide +kernel
theorem dL_law_638 : decode cL_law 638 = .ok (.aload_n 0, 1) := by decide +kernel
theorem dL_law_639 : decode cL_law 639 = .ok (.iload_n 3, 1) := by decide +kernel
theorem dL_law_640 : decode cL_law 640 = .ok (.iconst 1, 1) := by decide +kernel
theorem dL_law_641 : decode cL_law 641 = .ok (.iadd, 1) := by decide +kernel
theorem dL_law_642 : decode cL_law 642 = .ok (.iaload, 1) := by decide +kernel
theorem dL_law_643 : decode cL_law 643 = .ok (.aload_n 0, 1) := by decide +kernel
theorem dL_law_644 : decode cL_law 644 = .ok (.iload_n 3, 1) := by decide +kernel
theorem dL_law_645 : decode cL_law 645 = .ok (.iconst 2, 1) := by decide +kernel
theorem dL_law_646 : decode cL_law 646 = .ok (.iadd, 1) := by decide +kernel
theorem dL_law_647 : decode cL_law 647 = .ok (.iaload, 1) := by decide +kernel
theorem dL_law_648 : decode cL_law 648 = .ok (.aload_n 0, 1) := by decide +kernel
theorem dL_law_649 : decode cL_law 649 = .ok (.iload_n 3, 1) := by decide +kernel
theorem dL_law_650 : decode cL_law 650 = .ok (.iconst 3, 1) := by decide +kernel
theorem dL_law_651 : decode cL_law 651 = .ok (.iadd, 1) := by decide +kernel
theorem dL_law_652 : decode cL_law 652 = .ok (.iaload, 1) := by decide +kernel
theorem dL_law_653 : decode cL_law 653 = .ok (.invokevirtual 64, 3) := by decide +kernel
theorem dL_law_656 : decode cL_law 656 = .ok (.aload_n 2, 1) := by decide +kernel
theorem dL_law_657 : decode cL_law 657 = .ok (.aload_n 0, 1) := by decide +kernel
theorem dL_law_658 : decode cL_law 658 = .ok (.iload_n 3, 1) := by decide +kernel
theorem dL_law_659 : decode cL_law 659 = .ok (.iconst 1, 1) := by decide +kernel
theorem dL_law_660 : decode cL_law 660 = .ok (.iadd, 1) := by decide +kernel
theorem dL_law_661 : decode cL_law 661 = .ok (.iaload, 1) := by decide +kernel
theorem dL_law_662 : decode cL_law 662 = .ok (.aload_n 0, 1) := by decide +kernel
theorem dL_law_663 : decode cL_law 663 = .ok (.iload_n 3, 1) := by decide +kernel
theorem dL_law_664 : decode cL_law 664 = .ok (.iconst 2, 1) := by decide +kernel
theorem dL_law_665 : decode cL_law 665 = .ok (.iadd, 1) := by decide +kernel
theorem dL_law_666 : decode cL_law 666 = .ok (.iaload, 1) := by decide +kernel
theorem dL_law_667 : decode cL_law 667 = .ok (.aload_n 0, 1) := by decide +kernel
theorem dL_law_668 : decode cL_law 668 = .ok (.iload_n 3, 1) := by decide +kernel
theorem dL_law_669 : decode cL_law 669 = .ok (.iconst 3, 1) := by decide +kernel
theorem dL_law_670 : decode cL_law 670 = .ok (.iadd, 1) := by decide +kernel
theorem dL_law_671 : decode cL_law 671 = .ok (.iaload, 1) := by decide +kernel
theorem dL_law_672 : decode cL_law 672 = .ok (.invokevirtual 67, 3) := by decide +kernel
theorem dL_law_675 : decode cL_law 675 = .ok (.if_icmp .eq 781, 3) := by decide +kernel
theorem dL_law_678 : decode cL_law 678 = .ok (.iconst 0, 1) := by decide +kernel
theorem dL_law_679 : decode cL_law 679 = .ok (.ireturn, 1) := by decide +kernel
theorem dL_law_680 : decode cL_law 680 = .ok (.aload_n 1, 1) := by decide +kernel
theorem dL_law_681 : decode cL_law 681 = .ok (.aload_n 0, 1) := by decide +kernel
theorem dL_law_682 : decode cL_law 682 = .ok (.iload_n 3, 1) := by decide +kernel
theorem dL_law_683 : decode cL_law 683 = .ok (.iconst 1, 1) := by decide +kernel
theorem dL_law_684 : decode cL_law 684 = .ok (.iadd, 1) := by decide +kernel
theorem dL_law_685 : decode cL_law 685 = .ok (.iaload, 1) := by decide +kernel
theorem dL_law_686 : decode cL_law 686 = .ok (.aload_n 0, 1) := by decide +kernel
theorem dL_law_687 : decode cL_law 687 = .ok (.iload_n 3, 1) := by decide +kernel
theorem dL_law_688 : decode cL_law 688 = .ok (.iconst 2, 1) := by decide +kernel
theorem dL_law_689 : decode cL_law 689 = .ok (.iadd, 1) := by decide +kernel
theorem dL_law_690 : decode cL_law 690 = .ok (.iaload, 1) := by decide +kernel
theorem dL_law_691 : decode cL_law 691 = .ok (.aload_n 0, 1) := by decide +kernel
theorem dL_law_692 : decode cL_law 692 = .ok (.iload_n 3, 1) := by decide +kernel
theorem dL_law_693 : decode cL_law 693 = .ok (.iconst 3, 1) := by decide +kernel
theorem dL_law_694 : decode cL_law 694 = .ok (.iadd, 1) := by decide +kernel
theorem dL_law_695 : decode cL_law 695 = .ok (.iaload, 1) := by decide +kernel
theorem dL_law_696 : decode cL_law 696 = .ok (.invokevirtual 68, 3) := by decide +kernel
theorem dL_law_699 : decode cL_law 699 = .ok (.aload_n 2, 1) := by decide +kernel
theorem dL_law_700 : decode cL_law 700 = .ok (.aload_n 0, 1) := by decide +kernel
theorem dL_law_701 : decode cL_law 701 = .ok (.iload_n 3, 1) := by decide +kernel
theorem dL_law_702 : decode cL_law 702 = .ok (.iconst 1, 1) := by decide +kernel
theorem dL_law_703 : decode cL_law 703 = .ok (.iadd, 1) := by decide +kernel
theorem dL_law_704 : decode cL_law 704 = .ok (.iaload, 1) := by decide +kernel
theorem dL_law_705 : decode cL_law 705 = .ok (.aload_n 0, 1) := by decide +kernel
theorem dL_law_706 : decode cL_law 706 = .ok (.iload_n 3, 1) := by decide +kernel
theorem dL_law_707 : decode cL_law 707 = .ok (.iconst 2, 1) := by decide +kernel
theorem dL_law_708 : decode cL_law 708 = .ok (.iadd, 1) := by decide +kernel
theorem dL_law_709 : decode cL_law 709 = .ok (.iaload, 1) := by decide +kernel
theorem dL_law_710 : decode cL_law 710 = .ok (.aload_n 0, 1) := by decide +kernel
theorem dL_law_711 : decode cL_law 711 = .ok (.iload_n 3, 1) := by decide +kernel
theorem dL_law_712 : decode cL_law 712 = .ok (.iconst 3, 1) := by decide +kernel
theorem dL_law_713 : decode cL_law 713 = .ok (.iadd, 1) := by decide +kernel
theorem dL_law_714 : decode cL_law 714 = .ok (.iaload, 1) := by decide +kernel
theorem dL_law_715 : decode cL_law 715 = .ok (.invokevirtual 71, 3) := by decide +kernel
theorem dL_law_718 : decode cL_law 718 = .ok (.if_icmp .eq 738, 3) := by decide +kernel
theorem dL_law_721 : decode cL_law 721 = .ok (.iconst 0, 1) := by decide +kernel
theorem dL_law_722 : decode cL_law 722 = .ok (.ireturn, 1) := by decide +kernel
theorem dL_law_723 : decode cL_law 723 = .ok (.aload_n 1, 1) := by decide +kernel
theorem dL_law_724 : decode cL_law 724 = .ok (.aload_n 0, 1) := by decide +kernel
theorem dL_law_725 : decode cL_law 725 = .ok (.iload_n 3, 1) := by decide +kernel
theorem dL_law_726 : decode cL_law 726 = .ok (.iconst 1, 1) := by decide +kernel
theorem dL_law_727 : decode cL_law 727 = .ok (.iadd, 1) := by decide +kernel
theorem dL_law_728 : decode cL_law 728 = .ok (.iaload, 1) := by decide +kernel
theorem dL_law_729 : decode cL_law 729 = .ok (.aload_n 0, 1) := by decide +kernel
theorem dL_law_730 : decode cL_law 730 = .ok (.iload_n 3, 1) := by decide +kernel
theorem dL_law_731 : decode cL_law 731 = .ok (.iconst 2, 1) := by decide +kernel
theorem dL_law_732 : decode cL_law 732 = .ok (.iadd, 1) := by decide +kernel
theorem dL_law_733 : decode cL_law 733 = .ok (.iaload, 1) := by decide +kernel
theorem dL_law_734 : decode cL_law 734 = .ok (.aload_n 0, 1) := by decide +kernel
theorem dL_law_735 : decode cL_law 735 = .ok (.iload_n 3, 1) := by decide +kernel
theorem dL_law_736 : decode cL_law 736 = .ok (.iconst 3, 1) := by decide +kernel
theorem dL_law_737 : decode cL_law 737 = .ok (.iadd, 1) := by decide +kernel
theorem dL_law_738 : decode cL_law 738 = .ok (.iaload, 1) := by decide +kernel
theorem dL_law_739 : decode cL_law 739 = .ok (.invokevirtual 72, 3) := by decide +kernel
theorem dL_law_742 : decode cL_law 742 = .ok (.aload_n 2, 1) := by decide +kernel
theorem dL_law_743 : decode cL_law 743 = .ok (.aload_n 0, 1) := by decide +kernel
theorem dL_law_744 : decode cL_law 744 = .ok (.iload_n 3, 1) := by decide +kernel
theorem dL_law_745 : decode cL_law 745 = .ok (.iconst 1, 1) := by decide +kernel
theorem dL_law_746 : decode cL_law 746 = .ok (.iadd, 1) := by decide +kernel
theorem dL_law_747 : decode cL_law 747 = .ok (.iaload, 1) := by decide +kernel
theorem dL_law_748 : decode cL_law 748 = .ok (.aload_n 0, 1) := by decide +kernel
theorem dL_law_749 : decode cL_law 749 = .ok (.iload_n 3, 1) := by decide +kernel
theorem dL_law_750 : decode cL_law 750 = .ok (.iconst 2, 1) := by decide +kernel
theorem dL_law_751 : decode cL_law 751 = .ok (.iadd, 1) := by decide +kernel
theorem dL_law_752 : decode cL_law 752 = .ok (.iaload, 1) := by decide +kernel
theorem dL_law_753 : decode cL_law 753 = .ok (.aload_n 0, 1) := by decide +kernel
theorem dL_law_754 : decode cL_law 754 = .ok (.iload_n 3, 1) := by decide +kernel
theorem dL_law_755 : decode cL_law 755 = .ok (.iconst 3, 1) := by decide +kernel
theorem dL_law_756 : decode cL_law 756 = .ok (.iadd, 1) := by decide +kernel
theorem dL_law_757 : decode cL_law 757 = .ok (.iaload, 1) := by decide +kernel
theorem dL_law_758 : decode cL_law 758 = .ok (.invokevirtual 75, 3) := by decide +kernel
theorem dL_law_761 : decode cL_law 761 = .ok (.if_icmp .eq 695, 3) := by decide +kernel
theorem dL_law_764 : decode cL_law 764 = .ok (.iconst 0, 1) := by decide +kernel
theorem dL_law_765 : decode cL_law 765 = .ok (.ireturn, 1) := by decide +kernel
theorem dL_law_766 : decode cL_law 766 = .ok (.aload_n 1, 1) := by decide +kernel
theorem dL_law_767 : decode cL_law 767 = .ok (.aload_n 0, 1) := by decide +kernel
theorem dL_law_768 : decode cL_law 768 = .ok (.iload_n 3, 1) := by decide +kernel
theorem dL_law_769 : decode cL_law 769 = .ok (.iconst 1, 1) := by decide +kernel
theorem dL_law_770 : decode cL_law 770 = .ok (.iadd, 1) := by decide +kernel
theorem dL_law_771 : decode cL_law 771 = .ok (.iaload, 1) := by decide +kernel
theorem dL_law_772 : decode cL_law 772 = .ok (.aload_n 0, 1) := by decide +kernel
theorem dL_law_773 : decode cL_law 773 = .ok (.iload_n 3, 1) := by decide +kernel
theorem dL_law_774 : decode cL_law 774 = .ok (.iconst 2, 1) := by decide +kernel
theorem dL_law_775 : decode cL_law 775 = .ok (.iadd, 1) := by decide +kernel
theorem dL_law_776 : decode cL_law 776 = .ok (.iaload, 1) := by decide +kernel
theorem dL_law_777 : decode cL_law 777 = .ok (.aload_n 0, 1) := by decide +kernel
theorem dL_law_778 : decode cL_law 778 = .ok (.iload_n 3, 1) := by decide +kernel
theorem dL_law_779 : decode cL_law 779 = .ok (.iconst 3, 1) := by decide +kernel
theorem dL_law_780 : decode cL_law 780 = .ok (.iadd, 1) := by decide +kernel
theorem dL_law_781 : decode cL_law 781 = .ok (.iaload, 1) := by decide +kernel
theorem dL_law_782 : decode cL_law 782 = .ok (.invokevirtual 76, 3) := by decide +kernel
theorem dL_law_785 : decode cL_law 785 = .ok (.aload_n 2, 1) := by decide +kernel
theorem dL_law_786 : decode cL_law 786 = .ok (.aload_n 0, 1) := by decide +kernel
theorem dL_law_787 : decode cL_law 787 = .ok (.iload_n 3, 1) := by decide +kernel
theorem dL_law_788 : decode cL_law 788 = .ok (.iconst 1, 1) := by decide +kernel
theorem dL_law_789 : decode cL_law 789 = .ok (.iadd, 1) := by decide +kernel
theorem dL_law_790 : decode cL_law 790 = .ok (.iaload, 1) := by decide +kernel
theorem dL_law_791 : decode cL_law 791 = .ok (.aload_n 0, 1) := by decide +kernel
theorem dL_law_792 : decode cL_law 792 = .ok (.iload_n 3, 1) := by decide +kernel
theorem dL_law_793 : decode cL_law 793 = .ok (.iconst 2, 1) := by decide +kernel
theorem dL_law_794 : decode cL_law 794 = .ok (.iadd, 1) := by decide +kernel
theorem dL_law_795 : decode cL_law 795 = .ok (.iaload, 1) := by decide +kernel
theorem dL_law_796 : decode cL_law 796 = .ok (.aload_n 0, 1) := by decide +kernel
theorem dL_law_797 : decode cL_law 797 = .ok (.iload_n 3, 1) := by decide +kernel
theorem dL_law_798 : decode cL_law 798 = .ok (.iconst 3, 1) := by decide +kernel
theorem dL_law_799 : decode cL_law 799 = .ok (.iadd, 1) := by decide +kernel
theorem dL_law_800 : decode cL_law 800 = .ok (.iaload, 1) := by decide +kernel
theorem dL_law_801 : decode cL_law 801 = .ok (.invokevirtual 79, 3) := by decide +kernel
theorem dL_law_804 : decode cL_law 804 = .ok (.if_icmp .eq 652, 3) := by decide +kernel
theorem dL_law_807 : decode cL_law 807 = .ok (.iconst 0, 1) := by decide +kernel
theorem dL_law_808 : decode cL_law 808 = .ok (.ireturn, 1) := by decide +kernel
theorem dL_law_809 : decode cL_law 809 = .ok (.aload_n 1, 1) := by decide +kernel
theorem dL_law_810 : decode cL_law 810 = .ok (.aload_n 0, 1) := by decide +kernel
theorem dL_law_811 : decode cL_law 811 = .ok (.iload_n 3, 1) := by decide +kernel
theorem dL_law_812 : decode cL_law 812 = .ok (.iconst 1, 1) := by decide +kernel
theorem dL_law_813 : decode cL_law 813 = .ok (.iadd, 1) := by decide +kernel
theorem dL_law_814 : decode cL_law 814 = .ok (.iaload, 1) := by decide +kernel
theorem dL_law_815 : decode cL_law 815 = .ok (.aload_n 0, 1) := by decide +kernel
theorem dL_law_816 : decode cL_law 816 = .ok (.iload_n 3, 1) := by decide +kernel
theorem dL_law_817 : decode cL_law 817 = .ok (.iconst 2, 1) := by decide +kernel
theorem dL_law_818 : decode cL_law 818 = .ok (.iadd, 1) := by decide +kernel
theorem dL_law_819 : decode cL_law 819 = .ok (.iaload, 1) := by decide +kernel
theorem dL_law_820 : decode cL_law 820 = .ok (.aload_n 0, 1) := by decide +kernel
theorem dL_law_821 : decode cL_law 821 = .ok (.iload_n 3, 1) := by decide +kernel
theorem dL_law_822 : decode cL_law 822 = .ok (.iconst 3, 1) := by decide +kernel
theorem dL_law_823 : decode cL_law 823 = .ok (.iadd, 1) := by decide +kernel
theorem dL_law_824 : decode cL_law 824 = .ok (.iaload, 1) := by decide +kernel
theorem dL_law_825 : decode cL_law 825 = .ok (.invokevirtual 80, 3) := by decide +kernel
theorem dL_law_828 : decode cL_law 828 = .ok (.aload_n 2, 1) := by decide +kernel
theorem dL_law_829 : decode cL_law 829 = .ok (.aload_n 0, 1) := by decide +kernel
theorem dL_law_830 : decode cL_law 830 = .ok (.iload_n 3, 1) := by decide +kernel
theorem dL_law_831 : decode cL_law 831 = .ok (.iconst 1, 1) := by decide +kernel
theorem dL_law_832 : decode cL_law 832 = .ok (.iadd, 1) := by decide +kernel
theorem dL_law_833 : decode cL_law 833 = .ok (.iaload, 1) := by decide +kernel
theorem dL_law_834 : decode cL_law 834 = .ok (.aload_n 0, 1) := by decide +kernel
theorem dL_law_835 : decode cL_law 835 = .ok (.iload_n 3, 1) := by decide +kernel
theorem dL_law_836 : decode cL_law 836 = .ok (.iconst 2, 1) := by decide +kernel
theorem dL_law_837 : decode cL_law 837 = .ok (.iadd, 1) := by decide +kernel
theorem dL_law_838 : decode cL_law 838 = .ok (.iaload, 1) := by decide +kernel
theorem dL_law_839 : decode cL_law 839 = .ok (.aload_n 0, 1) := by decide +kernel
theorem dL_law_840 : decode cL_law 840 = .ok (.iload_n 3, 1) := by decide +kernel
theorem dL_law_841 : decode cL_law 841 = .ok (.iconst 3, 1) := by decide +kernel
theorem dL_law_842 : decode cL_law 842 = .ok (.iadd, 1) := by decide +kernel
theorem dL_law_843 : decode cL_law 843 = .ok (.iaload, 1) := by decide +kernel
theorem dL_law_844 : decode cL_law 844 = .ok (.invokevirtual 83, 3) := by decide +kernel
theorem dL_law_847 : decode cL_law 847 = .ok (.if_icmp .eq 609, 3) := by decide +kernel
theorem dL_law_850 : decode cL_law 850 = .ok (.iconst 0, 1) := by decide +kernel
theorem dL_law_851 : decode cL_law 851 = .ok (.ireturn, 1) := by decide +kernel
theorem dL_law_852 : decode cL_law 852 = .ok (.aload_n 1, 1) := by decide +kernel
theorem dL_law_853 : decode cL_law 853 = .ok (.aload_n 0, 1) := by decide +kernel
theorem dL_law_854 : decode cL_law 854 = .ok (.iload_n 3, 1) := by decide +kernel
theorem dL_law_855 : decode cL_law 855 = .ok (.iconst 1, 1) := by decide +kernel
theorem dL_law_856 : decode cL_law 856 = .ok (.iadd, 1) := by decide +kernel
theorem dL_law_857 : decode cL_law 857 = .ok (.iaload, 1) := by decide +kernel
theorem dL_law_858 : decode cL_law 858 = .ok (.aload_n 0, 1) := by decide +kernel
theorem dL_law_859 : decode cL_law 859 = .ok (.iload_n 3, 1) := by decide +kernel
theorem dL_law_860 : decode cL_law 860 = .ok (.iconst 2, 1) := by decide +kernel
theorem dL_law_861 : decode cL_law 861 = .ok (.iadd, 1) := by decide +kernel
theorem dL_law_862 : decode cL_law 862 = .ok (.iaload, 1) := by decide +kernel
theorem dL_law_863 : decode cL_law 863 = .ok (.aload_n 0, 1) := by decide +kernel
theorem dL_law_864 : decode cL_law 864 = .ok (.iload_n 3, 1) := by decide +kernel
theorem dL_law_865 : decode cL_law 865 = .ok (.iconst 3, 1) := by decide +kernel
theorem dL_law_866 : decode cL_law 866 = .ok (.iadd, 1) := by decide +kernel
theorem dL_law_867 : decode cL_law 867 = .ok (.iaload, 1) := by decide +kernel
theorem dL_law_868 : decode cL_law 868 = .ok (.aload_n 0, 1) := by decide +kernel
theorem dL_law_869 : decode cL_law 869 = .ok (.iload_n 3, 1) := by decide +kernel
theorem dL_law_870 : decode cL_law 870 = .ok (.iconst 4, 1) := by decide +kernel
theorem dL_law_871 : decode cL_law 871 = .ok (.iadd, 1) := by decide +kernel
theorem dL_law_872 : decode cL_law 872 = .ok (.iaload, 1) := by decide +kernel
theorem dL_law_873 : decode cL_law 873 = .ok (.invokevirtual 84, 3) := by decide +kernel
theorem dL_law_876 : decode cL_law 876 = .ok (.aload_n 2, 1) := by decide +kernel
theorem dL_law_877 : decode cL_law 877 = .ok (.aload_n 0, 1) := by decide +kernel
theorem dL_law_878 : decode cL_law 878 = .ok (.iload_n 3, 1) := by decide +kernel
theorem dL_law_879 : decode cL_law 879 = .ok (.iconst 1, 1) := by decide +kernel
theorem dL_law_880 : decode cL_law 880 = .ok (.iadd, 1) := by decide +kernel
theorem dL_law_881 : decode cL_law 881 = .ok (.iaload, 1) := by decide +kernel
theorem dL_law_882 : decode cL_law 882 = .ok (.aload_n 0, 1) := by decide +kernel
theorem dL_law_883 : decode cL_law 883 = .ok (.iload_n 3, 1) := by decide +kernel
theorem dL_law_884 : decode cL_law 884 = .ok (.iconst 2, 1) := by decide +kernel
theorem dL_law_885 : decode cL_law 885 = .ok (.iadd, 1) := by decide +kernel
theorem dL_law_886 : decode cL_law 886 = .ok (.iaload, 1) := by decide +kernel
theorem dL_law_887 : decode cL_law 887 = .ok (.aload_n 0, 1) := by decide +kernel
theorem dL_law_888 : decode cL_law 888 = .ok (.iload_n 3, 1) := by decide +kernel
theorem dL_law_889 : decode cL_law 889 = .ok (.iconst 3, 1) := by decide +kernel
theorem dL_law_890 : decode cL_law 890 = .ok (.iadd, 1) := by decide +kernel
theorem dL_law_891 : decode cL_law 891 = .ok (.iaload, 1) := by decide +kernel
theorem dL_law_892 : decode cL_law 892 = .ok (.aload_n 0, 1) := by decide +kernel
theorem dL_law_893 : decode cL_law 893 = .ok (.iload_n 3, 1) := by decide +kernel
theorem dL_law_894 : decode cL_law 894 = .ok (.iconst 4, 1) := by decide +kernel
theorem dL_law_895 : decode cL_law 895 = .ok (.iadd, 1) := by decide +kernel
theorem dL_law_896 : decode cL_law 896 = .ok (.iaload, 1) := by decide +kernel
theorem dL_law_897 : decode cL_law 897 = .ok (.invokevirtual 87, 3) := by decide +kernel
theorem dL_law_900 : decode cL_law 900 = .ok (.if_icmp .eq 556, 3) := by decide +kernel
theorem dL_law_903 : decode cL_law 903 = .ok (.iconst 0, 1) := by decide +kernel
theorem dL_law_904 : decode cL_law 904 = .ok (.ireturn, 1) := by decide +kernel
theorem dL_law_905 : decode cL_law 905 = .ok (.aload_n 1, 1) := by decide +kernel
theorem dL_law_906 : decode cL_law 906 = .ok (.aload_n 0, 1) := by decide +kernel
theorem dL_law_907 : decode cL_law 907 = .ok (.iload_n 3, 1) := by decide +kernel
theorem dL_law_908 : decode cL_law 908 = .ok (.iconst 1, 1) := by decide +kernel
theorem dL_law_909 : decode cL_law 909 = .ok (.iadd, 1) := by decide +kernel
theorem dL_law_910 : decode cL_law 910 = .ok (.iaload, 1) := by decide +kernel
theorem dL_law_911 : decode cL_law 911 = .ok (.aload_n 0, 1) := by decide +kernel
theorem dL_law_912 : decode cL_law 912 = .ok (.iload_n 3, 1) := by decide +kernel
theorem dL_law_913 : decode cL_law 913 = .ok (.iconst 2, 1) := by decide +kernel
theorem dL_law_914 : decode cL_law 914 = .ok (.iadd, 1) := by decide +kernel
theorem dL_law_915 : decode cL_law 915 = .ok (.iaload, 1) := by decide +kernel
theorem dL_law_916 : decode cL_law 916 = .ok (.invokevirtual 88, 3) := by decide +kernel
theorem dL_law_919 : decode cL_law 919 = .ok (.aload_n 2, 1) := by decide +kernel
theorem dL_law_920 : decode cL_law 920 = .ok (.aload_n 0, 1) := by decide +kernel
theorem dL_law_921 : decode cL_law 921 = .ok (.iload_n 3, 1) := by decide +kernel
theorem dL_law_922 : decode cL_law 922 = .ok (.iconst 1, 1) := by decide +kernel
theorem dL_law_923 : decode cL_law 923 = .ok (.iadd, 1) := by decide +kernel
theorem dL_law_924 : decode cL_law 924 = .ok (.iaload, 1) := by decide +kernel
theorem dL_law_925 : decode cL_law 925 = .ok (.aload_n 0, 1) := by decide +kernel
theorem dL_law_926 : decode cL_law 926 = .ok (.iload_n 3, 1) := by decide +kernel
theorem dL_law_927 : decode cL_law 927 = .ok (.iconst 2, 1) := by decide +kernel
theorem dL_law_928 : decode cL_law 928 = .ok (.iadd, 1) := by decide +kernel
theorem dL_law_929 : decode cL_law 929 = .ok (.iaload, 1) := by decide +kernel
theorem dL_law_930 : decode cL_law 930 = .ok (.invokevirtual 91, 3) := by decide +kernel
theorem dL_law_933 : decode cL_law 933 = .ok (.if_icmp .eq 523, 3) := by decide +kernel
theorem dL_law_936 : decode cL_law 936 = .ok (.iconst 0, 1) := by decide +kernel
theorem dL_law_937 : decode cL_law 937 = .ok (.ireturn, 1) := by decide +kernel
theorem dL_law_938 : decode cL_law 938 = .ok (.aload_n 1, 1) := by decide +kernel
theorem dL_law_939 : decode cL_law 939 = .ok (.aload_n 0, 1) := by decide +kernel
theorem dL_law_940 : decode cL_law 940 = .ok (.iload_n 3, 1) := by decide +kernel
theorem dL_law_941 : decode cL_law 941 = .ok (.iconst 1, 1) := by decide +kernel
theorem dL_law_942 : decode cL_law 942 = .ok (.iadd, 1) := by decide +kernel
theorem dL_law_943 : decode cL_law 943 = .ok (.iaload, 1) := by decide +kernel
theorem dL_law_944 : decode cL_law 944 = .ok (.aload_n 0, 1) := by decide +kernel
theorem dL_law_945 : decode cL_law 945 = .ok (.iload_n 3, 1) := by decide +kernel
theorem dL_law_946 : decode cL_law 946 = .ok (.iconst 2, 1) := by decide +kernel
theorem dL_law_947 : decode cL_law 947 = .ok (.iadd, 1) := by decide +kernel
theorem dL_law_948 : decode cL_law 948 = .ok (.iaload, 1) := by decide +kernel
theorem dL_law_949 : decode cL_law 949 = .ok (.invokevirtual 92, 3) := by decide +kernel
theorem dL_law_952 : decode cL_law 952 = .ok (.aload_n 2, 1) := by decide +kernel
theorem dL_law_953 : decode cL_law 953 = .ok (.aload_n 0, 1) := by decide +kernel
theorem dL_law_954 : decode cL_law 954 = .ok (.iload_n 3, 1) := by decide +kernel
theorem dL_law_955 : decode cL_law 955 = .ok (.iconst 1, 1) := by decide +kernel
theorem dL_law_956 : decode cL_law 956 = .ok (.iadd, 1) := by decide +kernel
theorem dL_law_957 : decode cL_law 957 = .ok (.iaload, 1) := by decide +kernel
theorem dL_law_958 : decode cL_law 958 = .ok (.aload_n 0, 1) := by decide +kernel
theorem dL_law_959 : decode cL_law 959 = .ok (.iload_n 3, 1) := by decide +kernel
theorem dL_law_960 : decode cL_law 960 = .ok (.iconst 2, 1) := by decide +kernel
theorem dL_law_961 : decode cL_law 961 = .ok (.iadd, 1) := by decide +kernel
theorem dL_law_962 : decode cL_law 962 = .ok (.iaload, 1) := by decide +kernel
theorem dL_law_963 : decode cL_law 963 = .ok (.invokevirtual 95, 3) := by decide +kernel
theorem dL_law_966 : decode cL_law 966 = .ok (.if_icmp .eq 490, 3) := by decide +kernel
theorem dL_law_969 : decode cL_law 969 = .ok (.iconst 0, 1) := by decide +kernel
theorem dL_law_970 : decode cL_law 970 = .ok (.ireturn, 1) := by decide +kernel
theorem dL_law_971 : decode cL_law 971 = .ok (.aload_n 1, 1) := by decide +kernel
theorem dL_law_972 : decode cL_law 972 = .ok (.aload_n 0, 1) := by decide +kernel
theorem dL_law_973 : decode cL_law 973 = .ok (.iload_n 3, 1) := by decide +kernel
theorem dL_law_974 : decode cL_law 974 = .ok (.iconst 1, 1) := by decide +kernel
theorem dL_law_975 : decode cL_law 975 = .ok (.iadd, 1) := by decide +kernel
theorem dL_law_976 : decode cL_law 976 = .ok (.iaload, 1) := by decide +kernel
theorem dL_law_977 : decode cL_law 977 = .ok (.invokevirtual 96, 3) := by decide +kernel
theorem dL_law_980 : decode cL_law 980 = .ok (.aload_n 2, 1) := by decide +kernel
theorem dL_law_981 : decode cL_law 981 = .ok (.aload_n 0, 1) := by decide +kernel
theorem dL_law_982 : decode cL_law 982 = .ok (.iload_n 3, 1) := by decide +kernel
theorem dL_law_983 : decode cL_law 983 = .ok (.iconst 1, 1) := by decide +kernel
theorem dL_law_984 : decode cL_law 984 = .ok (.iadd, 1) := by decide +kernel
theorem dL_law_985 : decode cL_law 985 = .ok (.iaload, 1) := by decide +kernel
theorem dL_law_986 : decode cL_law 986 = .ok (.invokevirtual 99, 3) := by decide +kernel
theorem dL_law_989 : decode cL_law 989 = .ok (.if_icmp .eq 467, 3) := by decide +kernel
theorem dL_law_992 : decode cL_law 992 = .ok (.iconst 0, 1) := by decide +kernel
theorem dL_law_993 : decode cL_law 993 = .ok (.ireturn, 1) := by decide +kernel
theorem dL_law_994 : decode cL_law 994 = .ok (.aload_n 1, 1) := by decide +kernel
theorem dL_law_995 : decode cL_law 995 = .ok (.aload_n 0, 1) := by decide +kernel
theorem dL_law_996 : decode cL_law 996 = .ok (.iload_n 3, 1) := by decide +kernel
theorem dL_law_997 : decode cL_law 997 = .ok (.iconst 1, 1) := by decide +kernel
theorem dL_law_998 : decode cL_law 998 = .ok (.iadd, 1) := by decide +kernel
theorem dL_law_999 : decode cL_law 999 = .ok (.iaload, 1) := by decide +kernel
theorem dL_law_1000 : decode cL_law 1000 = .ok (.aload_n 0, 1) := by decide +kernel
theorem dL_law_1001 : decode cL_law 1001 = .ok (.iload_n 3, 1) := by decide +kernel
theorem dL_law_1002 : decode cL_law 1002 = .ok (.iconst 2, 1) := by decide +kernel
theorem dL_law_1003 : decode cL_law 1003 = .ok (.iadd, 1) := by decide +kernel
theorem dL_law_1004 : decode cL_law 1004 = .ok (.iaload, 1) := by decide +kernel
theorem dL_law_1005 : decode cL_law 1005 = .ok (.invokevirtual 100, 3) := by decide +kernel
theorem dL_law_1008 : decode cL_law 1008 = .ok (.aload_n 2, 1) := by decide +kernel
theorem dL_law_1009 : decode cL_law 1009 = .ok (.aload_n 0, 1) := by decide +kernel
theorem dL_law_1010 : decode cL_law 1010 = .ok (.iload_n 3, 1) := by decide +kernel
theorem dL_law_1011 : decode cL_law 1011 = .ok (.iconst 1, 1) := by decide +kernel
theorem dL_law_1012 : decode cL_law 1012 = .ok (.iadd, 1) := by decide +kernel
theorem dL_law_1013 : decode cL_law 1013 = .ok (.iaload, 1) := by decide +kernel
theorem dL_law_1014 : decode cL_law 1014 = .ok (.aload_n 0, 1) := by decide +kernel
theorem dL_law_1015 : decode cL_law 1015 = .ok (.iload_n 3, 1) := by decide +kernel
theorem dL_law_1016 : decode cL_law 1016 = .ok (.iconst 2, 1) := by decide +kernel
theorem dL_law_1017 : decode cL_law 1017 = .ok (.iadd, 1) := by decide +kernel
theorem dL_law_1018 : decode cL_law 1018 = .ok (.iaload, 1) := by decide +kernel
theorem dL_law_1019 : decode cL_law 1019 = .ok (.invokevirtual 103, 3) := by decide +kernel
theorem dL_law_1022 : decode cL_law 1022 = .ok (.if_icmp .eq 434, 3) := by decide +kernel
theorem dL_law_1025 : decode cL_law 1025 = .ok (.iconst 0, 1) := by decide +kernel
theorem dL_law_1026 : decode cL_law 1026 = .ok (.ireturn, 1) := by decide +kernel
theorem dL_law_1027 : decode cL_law 1027 = .ok (.aload_n 1, 1) := by decide +kernel
theorem dL_law_1028 : decode cL_law 1028 = .ok (.aload_n 0, 1) := by decide +kernel
theorem dL_law_1029 : decode cL_law 1029 = .ok (.iload_n 3, 1) := by decide +kernel
theorem dL_law_1030 : decode cL_law 1030 = .ok (.iconst 1, 1) := by decide +kernel
theorem dL_law_1031 : decode cL_law 1031 = .ok (.iadd, 1) := by decide +kernel
theorem dL_law_1032 : decode cL_law 1032 = .ok (.iaload, 1) := by decide +kernel
theorem dL_law_1033 : decode cL_law 1033 = .ok (.aload_n 0, 1) := by decide +kernel
theorem dL_law_1034 : decode cL_law 1034 = .ok (.iload_n 3, 1) := by decide +kernel
theorem dL_law_1035 : decode cL_law 1035 = .ok (.iconst 2, 1) := by decide +kernel
theorem dL_law_1036 : decode cL_law 1036 = .ok (.iadd, 1) := by decide +kernel
theorem dL_law_1037 : decode cL_law 1037 = .ok (.iaload, 1) := by decide +kernel
theorem dL_law_1038 : decode cL_law 1038 = .ok (.aload_n 0, 1) := by decide +kernel
theorem dL_law_1039 : decode cL_law 1039 = .ok (.iload_n 3, 1) := by decide +kernel
theorem dL_law_1040 : decode cL_law 1040 = .ok (.iconst 3, 1) := by decide +kernel
theorem dL_law_1041 : decode cL_law 1041 = .ok (.iadd, 1) := by decide +kernel
theorem dL_law_1042 : decode cL_law 1042 = .ok (.iaload, 1) := by decide +kernel
theorem dL_law_1043 : decode cL_law 1043 = .ok (.invokevirtual 104, 3) := by decide +kernel
theorem dL_law_1046 : decode cL_law 1046 = .ok (.aload_n 2, 1) := by decide +kernel
theorem dL_law_1047 : decode cL_law 1047 = .ok (.aload_n 0, 1) := by decide +kernel
theorem dL_law_1048 : decode cL_law 1048 = .ok (.iload_n 3, 1) := by decide +kernel
theorem dL_law_1049 : decode cL_law 1049 = .ok (.iconst 1, 1) := by decide +kernel
theorem dL_law_1050 : decode cL_law 1050 = .ok (.iadd, 1) := by decide +kernel
theorem dL_law_1051 : decode cL_law 1051 = .ok (.iaload, 1) := by decide +kernel
theorem dL_law_1052 : decode cL_law 1052 = .ok (.aload_n 0, 1) := by decide +kernel
theorem dL_law_1053 : decode cL_law 1053 = .ok (.iload_n 3, 1) := by decide +kernel
theorem dL_law_1054 : decode cL_law 1054 = .ok (.iconst 2, 1) := by decide +kernel
theorem dL_law_1055 : decode cL_law 1055 = .ok (.iadd, 1) := by decide +kernel
theorem dL_law_1056 : decode cL_law 1056 = .ok (.iaload, 1) := by decide +kernel
theorem dL_law_1057 : decode cL_law 1057 = .ok (.aload_n 0, 1) := by decide +kernel
theorem dL_law_1058 : decode cL_law 1058 = .ok (.iload_n 3, 1) := by decide +kernel
theorem dL_law_1059 : decode cL_law 1059 = .ok (.iconst 3, 1) := by decide +kernel
theorem dL_law_1060 : decode cL_law 1060 = .ok (.iadd, 1) := by decide +kernel
theorem dL_law_1061 : decode cL_law 1061 = .ok (.iaload, 1) := by decide +kernel
theorem dL_law_1062 : decode cL_law 1062 = .ok (.invokevirtual 107, 3) := by decide +kernel
theorem dL_law_1065 : decode cL_law 1065 = .ok (.if_icmp .eq 391, 3) := by decide +kernel
theorem dL_law_1068 : decode cL_law 1068 = .ok (.iconst 0, 1) := by decide +kernel
theorem dL_law_1069 : decode cL_law 1069 = .ok (.ireturn, 1) := by decide +kernel
theorem dL_law_1070 : decode cL_law 1070 = .ok (.aload_n 1, 1) := by decide +kernel
theorem dL_law_1071 : decode cL_law 1071 = .ok (.aload_n 0, 1) := by decide +kernel
theorem dL_law_1072 : decode cL_law 1072 = .ok (.iload_n 3, 1) := by decide +kernel
theorem dL_law_1073 : decode cL_law 1073 = .ok (.iconst 1, 1) := by decide +kernel
theorem dL_law_1074 : decode cL_law 1074 = .ok (.iadd, 1) := by decide +kernel
theorem dL_law_1075 : decode cL_law 1075 = .ok (.iaload, 1) := by decide +kernel
theorem dL_law_1076 : decode cL_law 1076 = .ok (.aload_n 0, 1) := by decide +kernel
theorem dL_law_1077 : decode cL_law 1077 = .ok (.iload_n 3, 1) := by decide +kernel
theorem dL_law_1078 : decode cL_law 1078 = .ok (.iconst 2, 1) := by decide +kernel
theorem dL_law_1079 : decode cL_law 1079 = .ok (.iadd, 1) := by decide +kernel
theorem dL_law_1080 : decode cL_law 1080 = .ok (.iaload, 1) := by decide +kernel
theorem dL_law_1081 : decode cL_law 1081 = .ok (.invokevirtual 108, 3) := by decide +kernel
theorem dL_law_1084 : decode cL_law 1084 = .ok (.aload_n 2, 1) := by decide +kernel
theorem dL_law_1085 : decode cL_law 1085 = .ok (.aload_n 0, 1) := by decide +kernel
theorem dL_law_1086 : decode cL_law 1086 = .ok (.iload_n 3, 1) := by decide +kernel
theorem dL_law_1087 : decode cL_law 1087 = .ok (.iconst 1, 1) := by decide +kernel
theorem dL_law_1088 : decode cL_law 1088 = .ok (.iadd, 1) := by decide +kernel
theorem dL_law_1089 : decode cL_law 1089 = .ok (.iaload, 1) := by decide +kernel
theorem dL_law_1090 : decode cL_law 1090 = .ok (.aload_n 0, 1) := by decide +kernel
theorem dL_law_1091 : decode cL_law 1091 = .ok (.iload_n 3, 1) := by decide +kernel
theorem dL_law_1092 : decode cL_law 1092 = .ok (.iconst 2, 1) := by decide +kernel
theorem dL_law_1093 : decode cL_law 1093 = .ok (.iadd, 1) := by decide +kernel
theorem dL_law_1094 : decode cL_law 1094 = .ok (.iaload, 1) := by decide +kernel
theorem dL_law_1095 : decode cL_law 1095 = .ok (.invokevirtual 111, 3) := by decide +kernel
theorem dL_law_1098 : decode cL_law 1098 = .ok (.if_icmp .eq 358, 3) := by decide +kernel
theorem dL_law_1101 : decode cL_law 1101 = .ok (.iconst 0, 1) := by decide +kernel
theorem dL_law_1102 : decode cL_law 1102 = .ok (.ireturn, 1) := by decide +kernel
theorem dL_law_1103 : decode cL_law 1103 = .ok (.aload_n 1, 1) := by decide +kernel
theorem dL_law_1104 : decode cL_law 1104 = .ok (.aload_n 0, 1) := by decide +kernel
theorem dL_law_1105 : decode cL_law 1105 = .ok (.iload_n 3, 1) := by decide +kernel
theorem dL_law_1106 : decode cL_law 1106 = .ok (.iconst 1, 1) := by decide +kernel
theorem dL_law_1107 : decode cL_law 1107 = .ok (.iadd, 1) := by decide +kernel
theorem dL_law_1108 : decode cL_law 1108 = .ok (.iaload, 1) := by decide +kernel
theorem dL_law_1109 : decode cL_law 1109 = .ok (.aload_n 0, 1) := by decide +kernel
theorem dL_law_1110 : decode cL_law 1110 = .ok (.iload_n 3, 1) := by decide +kernel
theorem dL_law_1111 : decode cL_law 1111 = .ok (.iconst 2, 1) := by decide +kernel
theorem dL_law_1112 : decode cL_law 1112 = .ok (.iadd, 1) := by decide +kernel
theorem dL_law_1113 : decode cL_law 1113 = .ok (.iaload, 1) := by decide +kernel
theorem dL_law_1114 : decode cL_law 1114 = .ok (.invokevirtual 112, 3) := by decide +kernel
theorem dL_law_1117 : decode cL_law 1117 = .ok (.aload_n 2, 1) := by decide +kernel
theorem dL_law_1118 : decode cL_law 1118 = .ok (.aload_n 0, 1) := by decide +kernel
theorem dL_law_1119 : decode cL_law 1119 = .ok (.iload_n 3, 1) := by decide +kernel
theorem dL_law_1120 : decode cL_law 1120 = .ok (.iconst 1, 1) := by decide +kernel
theorem dL_law_1121 : decode cL_law 1121 = .ok (.iadd, 1) := by decide +kernel
theorem dL_law_1122 : decode cL_law 1122 = .ok (.iaload, 1) := by decide +kernel
theorem dL_law_1123 : decode cL_law 1123 = .ok (.aload_n 0, 1) := by decide +kernel
theorem dL_law_1124 : decode cL_law 1124 = .ok (.iload_n 3, 1) := by decide +kernel
theorem dL_law_1125 : decode cL_law 1125 = .ok (.iconst 2, 1) := by decide +kernel
theorem dL_law_1126 : decode cL_law 1126 = .ok (.iadd, 1) := by decide +kernel
theorem dL_law_1127 : decode cL_law 1127 = .ok (.iaload, 1) := by decide +kernel
theorem dL_law_1128 : decode cL_law 1128 = .ok (.invokevirtual 115, 3) := by decide +kernel
theorem dL_law_1131 : decode cL_law 1131 = .ok (.if_icmp .eq 325, 3) := by decide +kernel
theorem dL_law_1134 : decode cL_law 1134 = .ok (.iconst 0, 1) := by decide +kernel
theorem dL_law_1135 : decode cL_law 1135 = .ok (.ireturn, 1) := by decide +kernel
theorem dL_law_1136 : decode cL_law 1136 = .ok (.aload_n 1, 1) := by decide +kernel
theorem dL_law_1137 : decode cL_law 1137 = .ok (.aload_n 0, 1) := by decide +kernel
theorem dL_law_1138 : decode cL_law 1138 = .ok (.iload_n 3, 1) := by decide +kernel
theorem dL_law_1139 : decode cL_law 1139 = .ok (.iconst 1, 1) := by decide +kernel
theorem dL_law_1140 : decode cL_law 1140 = .ok (.iadd, 1) := by decide +kernel
theorem dL_law_1141 : decode cL_law 1141 = .ok (.iaload, 1) := by decide +kernel
theorem dL_law_1142 : decode cL_law 1142 = .ok (.aload_n 0, 1) := by decide +kernel
theorem dL_law_1143 : decode cL_law 1143 = .ok (.iload_n 3, 1) := by decide +kernel
theorem dL_law_1144 : decode cL_law 1144 = .ok (.iconst 2, 1) := by decide +kernel
theorem dL_law_1145 : decode cL_law 1145 = .ok (.iadd, 1) := by decide +kernel
theorem dL_law_1146 : decode cL_law 1146 = .ok (.iaload, 1) := by decide +kernel
theorem dL_law_1147 : decode cL_law 1147 = .ok (.invokevirtual 116, 3) := by decide +kernel
theorem dL_law_1150 : decode cL_law 1150 = .ok (.aload_n 2, 1) := by decide +kernel
theorem dL_law_1151 : decode cL_law 1151 = .ok (.aload_n 0, 1) := by decide +kernel
theorem dL_law_1152 : decode cL_law 1152 = .ok (.iload_n 3, 1) := by decide +kernel
theorem dL_law_1153 : decode cL_law 1153 = .ok (.iconst 1, 1) := by decide +kernel
theorem dL_law_1154 : decode cL_law 1154 = .ok (.iadd, 1) := by decide +kernel
theorem dL_law_1155 : decode cL_law 1155 = .ok (.iaload, 1) := by decide +kernel
theorem dL_law_1156 : decode cL_law 1156 = .ok (.aload_n 0, 1) := by decide +kernel
theorem dL_law_1157 : decode cL_law 1157 = .ok (.iload_n 3, 1) := by decide +kernel
theorem dL_law_1158 : decode cL_law 1158 = .ok (.iconst 2, 1) := by decide +kernel
theorem dL_law_1159 : decode cL_law 1159 = .ok (.iadd, 1) := by decide +kernel
theorem dL_law_1160 : decode cL_law 1160 = .ok (.iaload, 1) := by decide +kernel
theorem dL_law_1161 : decode cL_law 1161 = .ok (.invokevirtual 119, 3) := by decide +kernel
theorem dL_law_1164 : decode cL_law 1164 = .ok (.if_icmp .eq 292, 3) := by decide +kernel
theorem dL_law_1167 : decode cL_law 1167 = .ok (.iconst 0, 1) := by decide +kernel
theorem dL_law_1168 : decode cL_law 1168 = .ok (.ireturn, 1) := by decide +kernel
theorem dL_law_1169 : decode cL_law 1169 = .ok (.aload_n 1, 1) := by decide +kernel
theorem dL_law_1170 : decode cL_law 1170 = .ok (.aload_n 0, 1) := by decide +kernel
theorem dL_law_1171 : decode cL_law 1171 = .ok (.iload_n 3, 1) := by decide +kernel
theorem dL_law_1172 : decode cL_law 1172 = .ok (.iconst 1, 1) := by decide +kernel
theorem dL_law_1173 : decode cL_law 1173 = .ok (.iadd, 1) := by decide +kernel
theorem dL_law_1174 : decode cL_law 1174 = .ok (.iaload, 1) := by decide +kernel
theorem dL_law_1175 : decode cL_law 1175 = .ok (.aload_n 0, 1) := by decide +kernel
theorem dL_law_1176 : decode cL_law 1176 = .ok (.iload_n 3, 1) := by decide +kernel
theorem dL_law_1177 : decode cL_law 1177 = .ok (.iconst 2, 1) := by decide +kernel
theorem dL_law_1178 : decode cL_law 1178 = .ok (.iadd, 1) := by decide +kernel
theorem dL_law_1179 : decode cL_law 1179 = .ok (.iaload, 1) := by decide +kernel
theorem dL_law_1180 : decode cL_law 1180 = .ok (.invokevirtual 120, 3) := by decide +kernel
theorem dL_law_1183 : decode cL_law 1183 = .ok (.aload_n 2, 1) := by decide +kernel
theorem dL_law_1184 : decode cL_law 1184 = .ok (.aload_n 0, 1) := by decide +kernel
theorem dL_law_1185 : decode cL_law 1185 = .ok (.iload_n 3, 1) := by decide +kernel
theorem dL_law_1186 : decode cL_law 1186 = .ok (.iconst 1, 1) := by decide +kernel
theorem dL_law_1187 : decode cL_law 1187 = .ok (.iadd, 1) := by decide +kernel
theorem dL_law_1188 : decode cL_law 1188 = .ok (.iaload, 1) := by decide +kernel
theorem dL_law_1189 : decode cL_law 1189 = .ok (.aload_n 0, 1) := by decide +kernel
theorem dL_law_1190 : decode cL_law 1190 = .ok (.iload_n 3, 1) := by decide +kernel
theorem dL_law_1191 : decode cL_law 1191 = .ok (.iconst 2, 1) := by decide +kernel
theorem dL_law_1192 : decode cL_law 1192 = .ok (.iadd, 1) := by decide +kernel
theorem dL_law_1193 : decode cL_law 1193 = .ok (.iaload, 1) := by decide +kernel
theorem dL_law_1194 : decode cL_law 1194 = .ok (.invokevirtual 123, 3) := by decide +kernel
theorem dL_law_1197 : decode cL_law 1197 = .ok (.if_icmp .eq 259, 3) := by decide +kernel
theorem dL_law_1200 : decode cL_law 1200 = .ok (.iconst 0, 1) := by decide +kernel
theorem dL_law_1201 : decode cL_law 1201 = .ok (.ireturn, 1) := by decide +kernel
theorem dL_law_1202 : decode cL_law 1202 = .ok (.aload_n 1, 1) := by decide +kernel
theorem dL_law_1203 : decode cL_law 1203 = .ok (.aload_n 0, 1) := by decide +kernel
theorem dL_law_1204 : decode cL_law 1204 = .ok (.iload_n 3, 1) := by decide +kernel
theorem dL_law_1205 : decode cL_law 1205 = .ok (.iconst 1, 1) := by decide +kernel
theorem dL_law_1206 : decode cL_law 1206 = .ok (.iadd, 1) := by decide +kernel
theorem dL_law_1207 : decode cL_law 1207 = .ok (.iaload, 1) := by decide +kernel
theorem dL_law_1208 : decode cL_law 1208 = .ok (.aload_n 0, 1) := by decide +kernel
theorem dL_law_1209 : decode cL_law 1209 = .ok (.iload_n 3, 1) := by decide +kernel
theorem dL_law_1210 : decode cL_law 1210 = .ok (.iconst 2, 1) := by decide +kernel
theorem dL_law_1211 : decode cL_law 1211 = .ok (.iadd, 1) := by decide +kernel
theorem dL_law_1212 : decode cL_law 1212 = .ok (.iaload, 1) := by decide +kernel
theorem dL_law_1213 : decode cL_law 1213 = .ok (.invokevirtual 124, 3) := by decide +kernel
theorem dL_law_1216 : decode cL_law 1216 = .ok (.aload_n 2, 1) := by decide +kernel
theorem dL_law_1217 : decode cL_law 1217 = .ok (.aload_n 0, 1) := by decide +kernel
theorem dL_law_1218 : decode cL_law 1218 = .ok (.iload_n 3, 1) := by decide +kernel
theorem dL_law_1219 : decode cL_law 1219 = .ok (.iconst 1, 1) := by decide +kernel
theorem dL_law_1220 : decode cL_law 1220 = .ok (.iadd, 1) := by decide +kernel
theorem dL_law_1221 : decode cL_law 1221 = .ok (.iaload, 1) := by decide +kernel
theorem dL_law_1222 : decode cL_law 1222 = .ok (.aload_n 0, 1) := by decide +kernel
theorem dL_law_1223 : decode cL_law 1223 = .ok (.iload_n 3, 1) := by decide +kernel
theorem dL_law_1224 : decode cL_law 1224 = .ok (.iconst 2, 1) := by decide +kernel
theorem dL_law_1225 : decode cL_law 1225 = .ok (.iadd, 1) := by decide +kernel
theorem dL_law_1226 : decode cL_law 1226 = .ok (.iaload, 1) := by decide +kernel
theorem dL_law_1227 : decode cL_law 1227 = .ok (.invokevirtual 127, 3) := by decide +kernel
theorem dL_law_1230 : decode cL_law 1230 = .ok (.if_icmp .eq 226, 3) := by decide +kernel
theorem dL_law_1233 : decode cL_law 1233 = .ok (.iconst 0, 1) := by decide +kernel
theorem dL_law_1234 : decode cL_law 1234 = .ok (.ireturn, 1) := by decide +kernel
theorem dL_law_1235 : decode cL_law 1235 = .ok (.aload_n 1, 1) := by decide +kernel
theorem dL_law_1236 : decode cL_law 1236 = .ok (.aload_n 0, 1) := by decide +kernel
theorem dL_law_1237 : decode cL_law 1237 = .ok (.iload_n 3, 1) := by decide +kernel
theorem dL_law_1238 : decode cL_law 1238 = .ok (.iconst 1, 1) := by decide +kernel
theorem dL_law_1239 : decode cL_law 1239 = .ok (.iadd, 1) := by decide +kernel
theorem dL_law_1240 : decode cL_law 1240 = .ok (.iaload, 1) := by decide +kernel
theorem dL_law_1241 : decode cL_law 1241 = .ok (.aload_n 0, 1) := by decide +kernel
theorem dL_law_1242 : decode cL_law 1242 = .ok (.iload_n 3, 1) := by decide +kernel
theorem dL_law_1243 : decode cL_law 1243 = .ok (.iconst 2, 1) := by decide +kernel
theorem dL_law_1244 : decode cL_law 1244 = .ok (.iadd, 1) := by decide +kernel
theorem dL_law_1245 : decode cL_law 1245 = .ok (.iaload, 1) := by decide +kernel
theorem dL_law_1246 : decode cL_law 1246 = .ok (.aload_n 0, 1) := by decide +kernel
theorem dL_law_1247 : decode cL_law 1247 = .ok (.iload_n 3, 1) := by decide +kernel
theorem dL_law_1248 : decode cL_law 1248 = .ok (.iconst 3, 1) := by decide +kernel
theorem dL_law_1249 : decode cL_law 1249 = .ok (.iadd, 1) := by decide +kernel
theorem dL_law_1250 : decode cL_law 1250 = .ok (.iaload, 1) := by decide +kernel
theorem dL_law_1251 : decode cL_law 1251 = .ok (.invokevirtual 128, 3) := by decide +kernel
theorem dL_law_1254 : decode cL_law 1254 = .ok (.aload_n 2, 1) := by decide +kernel
theorem dL_law_1255 : decode cL_law 1255 = .ok (.aload_n 0, 1) := by decide +kernel
theorem dL_law_1256 : decode cL_law 1256 = .ok (.iload_n 3, 1) := by decide +kernel
theorem dL_law_1257 : decode cL_law 1257 = .ok (.iconst 1, 1) := by decide +kernel
theorem dL_law_1258 : decode cL_law 1258 = .ok (.iadd, 1) := by decide +kernel
theorem dL_law_1259 : decode cL_law 1259 = .ok (.iaload, 1) := by decide +kernel
theorem dL_law_1260 : decode cL_law 1260 = .ok (.aload_n 0, 1) := by decide +kernel
theorem dL_law_1261 : decode cL_law 1261 = .ok (.iload_n 3, 1) := by decide +kernel
theorem dL_law_1262 : decode cL_law 1262 = .ok (.iconst 2, 1) := by decide +kernel
theorem dL_law_1263 : decode cL_law 1263 = .ok (.iadd, 1) := by decide +kernel
theorem dL_law_1264 : decode cL_law 1264 = .ok (.iaload, 1) := by decide +kernel
theorem dL_law_1265 : decode cL_law 1265 = .ok (.aload_n 0, 1) := by decide +kernel
theorem dL_law_1266 : decode cL_law 1266 = .ok (.iload_n 3, 1) := by decide +kernel
theorem dL_law_1267 : decode cL_law 1267 = .ok (.iconst 3, 1) := by decide +kernel
theorem dL_law_1268 : decode cL_law 1268 = .ok (.iadd, 1) := by decide +kernel
theorem dL_law_1269 : decode cL_law 1269 = .ok (.iaload, 1) := by decide +kernel
theorem dL_law_1270 : decode cL_law 1270 = .ok (.invokevirtual 131, 3) := by decide +kernel
theorem dL_law_1273 : decode cL_law 1273 = .ok (.if_icmp .eq 183, 3) := by decide +kernel
theorem dL_law_1276 : decode cL_law 1276 = .ok (.iconst 0, 1) := by decide +kernel
theorem dL_law_1277 : decode cL_law 1277 = .ok (.ireturn, 1) := by decide +kernel
theorem dL_law_1278 : decode cL_law 1278 = .ok (.aload_n 1, 1) := by decide +kernel
theorem dL_law_1279 : decode cL_law 1279 = .ok (.aload_n 0, 1) := by decide +kernel
theorem dL_law_1280 : decode cL_law 1280 = .ok (.iload_n 3, 1) := by decide +kernel
theorem dL_law_1281 : decode cL_law 1281 = .ok (.iconst 1, 1) := by decide +kernel
theorem dL_law_1282 : decode cL_law 1282 = .ok (.iadd, 1) := by decide +kernel
theorem dL_law_1283 : decode cL_law 1283 = .ok (.iaload, 1) := by decide +kernel
theorem dL_law_1284 : decode cL_law 1284 = .ok (.aload_n 0, 1) := by decide +kernel
theorem dL_law_1285 : decode cL_law 1285 = .ok (.iload_n 3, 1) := by decide +kernel
theorem dL_law_1286 : decode cL_law 1286 = .ok (.iconst 2, 1) := by decide +kernel
theorem dL_law_1287 : decode cL_law 1287 = .ok (.iadd, 1) := by decide +kernel
theorem dL_law_1288 : decode cL_law 1288 = .ok (.iaload, 1) := by decide +kernel
theorem dL_law_1289 : decode cL_law 1289 = .ok (.aload_n 0, 1) := by decide +kernel
theorem dL_law_1290 : decode cL_law 1290 = .ok (.iload_n 3, 1) := by decide +kernel
theorem dL_law_1291 : decode cL_law 1291 = .ok (.iconst 3, 1) := by decide +kernel
theorem dL_law_1292 : decode cL_law 1292 = .ok (.iadd, 1) := by decide +kernel
theorem dL_law_1293 : decode cL_law 1293 = .ok (.iaload, 1) := by decide +kernel
theorem dL_law_1294 : decode cL_law 1294 = .ok (.invokevirtual 132, 3) := by decide +kernel
theorem dL_law_1297 : decode cL_law 1297 = .ok (.aload_n 2, 1) := by decide +kernel
theorem dL_law_1298 : decode cL_law 1298 = .ok (.aload_n 0, 1) := by decide +kernel
theorem dL_law_1299 : decode cL_law 1299 = .ok (.iload_n 3, 1) := by decide +kernel
theorem dL_law_1300 : decode cL_law 1300 = .ok (.iconst 1, 1) := by decide +kernel
theorem dL_law_1301 : decode cL_law 1301 = .ok (.iadd, 1) := by decide +kernel
theorem dL_law_1302 : decode cL_law 1302 = .ok (.iaload, 1) := by decide +kernel
theorem dL_law_1303 : decode cL_law 1303 = .ok (.aload_n 0, 1) := by decide +kernel
theorem dL_law_1304 : decode cL_law 1304 = .ok (.iload_n 3, 1) := by decide +kernel
theorem dL_law_1305 : decode cL_law 1305 = .ok (.iconst 2, 1) := by decide +kernel
theorem dL_law_1306 : decode cL_law 1306 = .ok (.iadd, 1) := by decide +kernel
theorem dL_law_1307 : decode cL_law 1307 = .ok (.iaload, 1) := by decide +kernel
theorem dL_law_1308 : decode cL_law 1308 = .ok (.aload_n 0, 1) := by decide +kernel
theorem dL_law_1309 : decode cL_law 1309 = .ok (.iload_n 3, 1) := by decide +kernel
theorem dL_law_1310 : decode cL_law 1310 = .ok (.iconst 3, 1) := by decide +kernel
theorem dL_law_1311 : decode cL_law 1311 = .ok (.iadd, 1) := by decide +kernel
theorem dL_law_1312 : decode cL_law 1312 = .ok (.iaload, 1) := by decide +kernel
theorem dL_law_1313 : decode cL_law 1313 = .ok (.invokevirtual 135, 3) := by decide +kernel
theorem dL_law_1316 : decode cL_law 1316 = .ok (.if_icmp .eq 140, 3) := by decide +kernel
theorem dL_law_1319 : decode cL_law 1319 = .ok (.iconst 0, 1) := by decide +kernel
theorem dL_law_1320 : decode cL_law 1320 = .ok (.ireturn, 1) := by decide +kernel
theorem dL_law_1321 : decode cL_law 1321 = .ok (.aload_n 1, 1) := by decide +kernel
theorem dL_law_1322 : decode cL_law 1322 = .ok (.aload_n 0, 1) := by decide +kernel
theorem dL_law_1323 : decode cL_law 1323 = .ok (.iload_n 3, 1) := by decide +kernel
theorem dL_law_1324 : decode cL_law 1324 = .ok (.iconst 1, 1) := by decide +kernel
theorem dL_law_1325 : decode cL_law 1325 = .ok (.iadd, 1) := by decide +kernel
theorem dL_law_1326 : decode cL_law 1326 = .ok (.iaload, 1) := by decide +kernel
theorem dL_law_1327 : decode cL_law 1327 = .ok (.aload_n 0, 1) := by decide +kernel
theorem dL_law_1328 : decode cL_law 1328 = .ok (.iload_n 3, 1) := by decide +kernel
theorem dL_law_1329 : decode cL_law 1329 = .ok (.iconst 2, 1) := by decide +kernel
theorem dL_law_1330 : decode cL_law 1330 = .ok (.iadd, 1) := by decide +kernel
theorem dL_law_1331 : decode cL_law 1331 = .ok (.iaload, 1) := by decide +kernel
theorem dL_law_1332 : decode cL_law 1332 = .ok (.aload_n 0, 1) := by decide +kernel
theorem dL_law_1333 : decode cL_law 1333 = .ok (.iload_n 3, 1) := by decide +kernel
theorem dL_law_1334 : decode cL_law 1334 = .ok (.iconst 3, 1) := by decide +kernel
theorem dL_law_1335 : decode cL_law 1335 = .ok (.iadd, 1) := by decide +kernel
theorem dL_law_1336 : decode cL_law 1336 = .ok (.iaload, 1) := by decide +kernel
theorem dL_law_1337 : decode cL_law 1337 = .ok (.aload_n 0, 1) := by decide +kernel
theorem dL_law_1338 : decode cL_law 1338 = .ok (.iload_n 3, 1) := by decide +kernel
theorem dL_law_1339 : decode cL_law 1339 = .ok (.iconst 4, 1) := by decide +kernel
theorem dL_law_1340 : decode cL_law 1340 = .ok (.iadd, 1) := by decide +kernel
theorem dL_law_1341 : decode cL_law 1341 = .ok (.iaload, 1) := by decide +kernel
theorem dL_law_1342 : decode cL_law 1342 = .ok (.aload_n 0, 1) := by decide +kernel
theorem dL_law_1343 : decode cL_law 1343 = .ok (.iload_n 3, 1) := by decide +kernel
theorem dL_law_1344 : decode cL_law 1344 = .ok (.iconst 5, 1) := by decide +kernel
theorem dL_law_1345 : decode cL_law 1345 = .ok (.iadd, 1) := by decide +kernel
theorem dL_law_1346 : decode cL_law 1346 = .ok (.iaload, 1) := by decide +kernel
theorem dL_law_1347 : decode cL_law 1347 = .ok (.invokevirtual 136, 3) := by decide +kernel
theorem dL_law_1350 : decode cL_law 1350 = .ok (.aload_n 2, 1) := by decide +kernel
theorem dL_law_1351 : decode cL_law 1351 = .ok (.aload_n 0, 1) := by decide +kernel
theorem dL_law_1352 : decode cL_law 1352 = .ok (.iload_n 3, 1) := by decide +kernel
theorem dL_law_1353 : decode cL_law 1353 = .ok (.iconst 1, 1) := by decide +kernel
theorem dL_law_1354 : decode cL_law 1354 = .ok (.iadd, 1) := by decide +kernel
theorem dL_law_1355 : decode cL_law 1355 = .ok (.iaload, 1) := by decide +kernel
theorem dL_law_1356 : decode cL_law 1356 = .ok (.aload_n 0, 1) := by decide +kernel
theorem dL_law_1357 : decode cL_law 1357 = .ok (.iload_n 3, 1) := by decide +kernel
theorem dL_law_1358 : decode cL_law 1358 = .ok (.iconst 2, 1) := by decide +kernel
theorem dL_law_1359 : decode cL_law 1359 = .ok (.iadd, 1) := by decide +kernel
theorem dL_law_1360 : decode cL_law 1360 = .ok (.iaload, 1) := by decide +kernel
theorem dL_law_1361 : decode cL_law 1361 = .ok (.aload_n 0, 1) := by decide +kernel
theorem dL_law_1362 : decode cL_law 1362 = .ok (.iload_n 3, 1) := by decide +kernel
theorem dL_law_1363 : decode cL_law 1363 = .ok (.iconst 3, 1) := by decide +kernel
theorem dL_law_1364 : decode cL_law 1364 = .ok (.iadd, 1) := by decide +kernel
theorem dL_law_1365 : decode cL_law 1365 = .ok (.iaload, 1) := by decide +kernel
theorem dL_law_1366 : decode cL_law 1366 = .ok (.aload_n 0, 1) := by decide +kernel
theorem dL_law_1367 : decode cL_law 1367 = .ok (.iload_n 3, 1) := by decide +kernel
theorem dL_law_1368 : decode cL_law 1368 = .ok (.iconst 4, 1) := by decide +kernel
theorem dL_law_1369 : decode cL_law 1369 = .ok (.iadd, 1) := by decide +kernel
theorem dL_law_1370 : decode cL_law 1370 = .ok (.iaload, 1) := by decide +kernel
theorem dL_law_1371 : decode cL_law 1371 = .ok (.aload_n 0, 1) := by decide +kernel
theorem dL_law_1372 : decode cL_law 1372 = .ok (.iload_n 3, 1) := by decide +kernel
theorem dL_law_1373 : decode cL_law 1373 = .ok (.iconst 5, 1) := by decide +kernel
theorem dL_law_1374 : decode cL_law 1374 = .ok (.iadd, 1) := by decide +kernel
theorem dL_law_1375 : decode cL_law 1375 = .ok (.iaload, 1) := by decide +kernel
theorem dL_law_1376 : decode cL_law 1376 = .ok (.invokevirtual 140, 3) := by decide +kernel
theorem dL_law_1379 : decode cL_law 1379 = .ok (.if_icmp .eq 77, 3) := by decide +kernel
theorem dL_law_1382 : decode cL_law 1382 = .ok (.iconst 0, 1) := by decide +kernel
theorem dL_law_1383 : decode cL_law 1383 = .ok (.ireturn, 1) := by decide +kernel
theorem dL_law_1384 : decode cL_law 1384 = .ok (.aload_n 1, 1) := by decide +kernel
theorem dL_law_1385 : decode cL_law 1385 = .ok (.aload_n 0, 1) := by decide +kernel
theorem dL_law_1386 : decode cL_law 1386 = .ok (.iload_n 3, 1) := by decide +kernel
theorem dL_law_1387 : decode cL_law 1387 = .ok (.iconst 1, 1) := by decide +kernel
theorem dL_law_1388 : decode cL_law 1388 = .ok (.iadd, 1) := by decide +kernel
theorem dL_law_1389 : decode cL_law 1389 = .ok (.iaload, 1) := by decide +kernel
theorem dL_law_1390 : decode cL_law 1390 = .ok (.invokevirtual 141, 3) := by decide +kernel
theorem dL_law_1393 : decode cL_law 1393 = .ok (.aload_n 2, 1) := by decide +kernel
theorem dL_law_1394 : decode cL_law 1394 = .ok (.aload_n 0, 1) := by decide +kernel
theorem dL_law_1395 : decode cL_law 1395 = .ok (.iload_n 3, 1) := by decide +kernel
theorem dL_law_1396 : decode cL_law 1396 = .ok (.iconst 1, 1) := by decide +kernel
theorem dL_law_1397 : decode cL_law 1397 = .ok (.iadd, 1) := by decide +kernel
theorem dL_law_1398 : decode cL_law 1398 = .ok (.iaload, 1) := by decide +kernel
theorem dL_law_1399 : decode cL_law 1399 = .ok (.invokevirtual 144, 3) := by decide +kernel
theorem dL_law_1402 : decode cL_law 1402 = .ok (.if_icmp .eq 54, 3) := by decide +kernel
theorem dL_law_1405 : decode cL_law 1405 = .ok (.iconst 0, 1) := by decide +kernel
theorem dL_law_1406 : decode cL_law 1406 = .ok (.ireturn, 1) := by decide +kernel
theorem dL_law_1407 : decode cL_law 1407 = .ok (.aload_n 1, 1) := by decide +kernel
theorem dL_law_1408 : decode cL_law 1408 = .ok (.invokevirtual 145, 3) := by decide +kernel
theorem dL_law_1411 : decode cL_law 1411 = .ok (.aload_n 2, 1) := by decide +kernel
theorem dL_law_1412 : decode cL_law 1412 = .ok (.invokevirtual 148, 3) := by decide +kernel
theorem dL_law_1415 : decode cL_law 1415 = .ok (.if_icmp .eq 41, 3) := by decide +kernel
theorem dL_law_1418 : decode cL_law 1418 = .ok (.iconst 0, 1) := by decide +kernel
theorem dL_law_1419 : decode cL_law 1419 = .ok (.ireturn, 1) := by decide +kernel
theorem dL_law_1420 : decode cL_law 1420 = .ok (.aload_n 1, 1) := by decide +kernel
theorem dL_law_1421 : decode cL_law 1421 = .ok (.invokevirtual 149, 3) := by decide +kernel
theorem dL_law_1424 : decode cL_law 1424 = .ok (.aload_n 2, 1) := by decide +kernel
theorem dL_law_1425 : decode cL_law 1425 = .ok (.invokevirtual 152, 3) := by decide +kernel
theorem dL_law_1428 : decode cL_law 1428 = .ok (.if_icmp .eq 28, 3) := by decide +kernel
theorem dL_law_1431 : decode cL_law 1431 = .ok (.iconst 0, 1) := by decide +kernel
theorem dL_law_1432 : decode cL_law 1432 = .ok (.ireturn, 1) := by decide +kernel
theorem dL_law_1433 : decode cL_law 1433 = .ok (.aload_n 1, 1) := by decide +kernel
theorem dL_law_1434 : decode cL_law 1434 = .ok (.aload_n 0, 1) := by decide +kernel
theorem dL_law_1435 : decode cL_law 1435 = .ok (.iload_n 3, 1) := by decide +kernel
theorem dL_law_1436 : decode cL_law 1436 = .ok (.iconst 1, 1) := by decide +kernel
theorem dL_law_1437 : decode cL_law 1437 = .ok (.iadd, 1) := by decide +kernel
theorem dL_law_1438 : decode cL_law 1438 = .ok (.iaload, 1) := by decide +kernel
theorem dL_law_1439 : decode cL_law 1439 = .ok (.invokevirtual 153, 3) := by decide +kernel
theorem dL_law_1442 : decode cL_law 1442 = .ok (.aload_n 2, 1) := by decide +kernel
theorem dL_law_1443 : decode cL_law 1443 = .ok (.aload_n 0, 1) := by decide +kernel
theorem dL_law_1444 : decode cL_law 1444 = .ok (.iload_n 3, 1) := by decide +kernel
theorem dL_law_1445 : decode cL_law 1445 = .ok (.iconst 1, 1) := by decide +kernel
theorem dL_law_1446 : decode cL_law 1446 = .ok (.iadd, 1) := by decide +kernel
theorem dL_law_1447 : decode cL_law 1447 = .ok (.iaload, 1) := by decide +kernel
theorem dL_law_1448 : decode cL_law 1448 = .ok (.invokevirtual 156, 3) := by decide +kernel
theorem dL_law_1451 : decode cL_law 1451 = .ok (.if_icmp .eq 5, 3) := by decide +kernel
theorem dL_law_1454 : decode cL_law 1454 = .ok (.iconst 0, 1) := by decide +kernel
theorem dL_law_1455 : decode cL_law 1455 = .ok (.ireturn, 1) := by decide +kernel
theorem dL_law_1456 : decode cL_law 1456 = .ok (.iinc 3 8, 3) := by decide +kernel
theorem dL_law_1459 : decode cL_law 1459 = .ok (.goto (-1441), 3) := by decide +kernel
theorem dL_law_1462 : decode cL_law 1462 = .ok (.iconst 1, 1) := by decide +kernel
theorem dL_law_1463 : decode cL_law 1463 = .ok (.ireturn, 1) := by decide +kernel
end
section
/-! ===== the one world: 111 cells, by number: 0 the desk; 1..42 its book; 43..84 what is kept; 85..91 the reckoner; 92..100 the sheets; 101..110 the reference ===== -/
abbrev gSt : Type := Nat → Nat → Int32
/-- (classes and slots, array classes, addresses of the cells, the address of KIND_OVER's array) -/
abbrev gPar : Type := va_G × (Nat → ClassId) × (Nat → Nat) × Nat
abbrev gN : Nat := 111
def gLenT : List Nat := [0, 0, 0, 6, 0, 6, 6, 6, 6, 6, 6, 0, 10, 10, 10, 10, 10, 0, 24, 24, 24, 24, 24, 24, 24, 24, 0, 12, 12, 12, 12, 0, 20, 20, 20, 20, 20, 20, 0, 10, 10, 10, 60, 0, 0, 6, 0, 6, 6, 6, 6, 6, 6, 0, 10, 10, 10, 10, 10, 0, 24, 24, 24, 24, 24, 24, 24, 24, 0, 12, 12, 12, 12, 0, 20, 20, 20, 20, 20, 20, 0, 10, 10, 10, 60, 0, 24, 10, 10, 8, 8, 8, 0, 0, 0, 0, 0, 60, 60, 60, 60, 0, 549, 549, 4, 4, 240, 10, 8, 256, 60]
/-- an int array's length (0: the cell is none) -/
def gLen (k : Nat) : Nat := gLenT.getD k 0
def gOb (ad : Nat → Nat) (k : Nat) (f : Nat → Int32) : Nat × List Value := match k with
  | 0 => (9, [.ref (ad 1), .ref (ad 43), .ref (ad 85), .ref (ad 92), .int (f 4), .int (f 5)])
  | 1 => (0, [.ref (ad 2), .ref (ad 11), .ref (ad 17), .ref (ad 26), .ref (ad 31), .ref (ad 38), .int (f 6)])
  | 2 => (4, [.int (f 0), .ref (ad 3), .ref (ad 4)])
  | 11 => (5, [.int (f 0), .ref (ad 12), .ref (ad 13), .ref (ad 14), .ref (ad 15), .ref (ad 16)])
  | 17 => (1, [.int (f 0), .ref (ad 18), .ref (ad 19), .ref (ad 20), .ref (ad 21), .ref (ad 22), .ref (ad 23), .ref (ad 24), .ref (ad 25)])
  | 26 => (2, [.int (f 0), .ref (ad 27), .ref (ad 28), .ref (ad 29), .ref (ad 30)])
  | 31 => (3, [.int (f 0), .ref (ad 32), .ref (ad 33), .ref (ad 34), .ref (ad 35), .ref (ad 36), .ref (ad 37)])
  | 38 => (6, [.int (f 0), .ref (ad 39), .ref (ad 40), .ref (ad 41), .ref (ad 42)])
  | 43 => (0, [.ref (ad 44), .ref (ad 53), .ref (ad 59), .ref (ad 68), .ref (ad 73), .ref (ad 80), .int (f 6)])
  | 44 => (4, [.int (f 0), .ref (ad 45), .ref (ad 46)])
  | 53 => (5, [.int (f 0), .ref (ad 54), .ref (ad 55), .ref (ad 56), .ref (ad 57), .ref (ad 58)])
  | 59 => (1, [.int (f 0), .ref (ad 60), .ref (ad 61), .ref (ad 62), .ref (ad 63), .ref (ad 64), .ref (ad 65), .ref (ad 66), .ref (ad 67)])
  | 68 => (2, [.int (f 0), .ref (ad 69), .ref (ad 70), .ref (ad 71), .ref (ad 72)])
  | 73 => (3, [.int (f 0), .ref (ad 74), .ref (ad 75), .ref (ad 76), .ref (ad 77), .ref (ad 78), .ref (ad 79)])
  | 80 => (6, [.int (f 0), .ref (ad 81), .ref (ad 82), .ref (ad 83), .ref (ad 84)])
  | 85 => (7, [.ref (ad 1), .ref (ad 86), .ref (ad 87), .ref (ad 88), .ref (ad 89), .ref (ad 90), .ref (ad 91), .int (f 7), .int (f 8)])
  | 93 => (8, [.int (f 0), .int (f 1), .ref (ad 97)])
  | 94 => (8, [.int (f 0), .int (f 1), .ref (ad 98)])
  | 95 => (8, [.int (f 0), .int (f 1), .ref (ad 99)])
  | 96 => (8, [.int (f 0), .int (f 1), .ref (ad 100)])
  | 101 => (10, [.ref (ad 102), .ref (ad 103), .int (f 2), .int (f 3), .ref (ad 104), .ref (ad 105), .ref (ad 106), .int (f 7), .ref (ad 107), .int (f 9), .ref (ad 108), .ref (ad 109), .ref (ad 110)])
  | _ => (0, [])
def gRf (ad : Nat → Nat) (b n : Nat) : Nat → Option Nat := fun j => if j < n then some (ad (b + j)) else none
def gE (G : gPar) (k : Nat) (f : Nat → Int32) : va_E :=
  if gLen k = 0 then
    (if k = 4 then .inl (G.2.1 1, 6, .inr (.inr (.inr (.inr (gRf G.2.2.1 5 6)))))
     else if k = 46 then .inl (G.2.1 1, 6, .inr (.inr (.inr (.inr (gRf G.2.2.1 47 6)))))
     else if k = 92 then .inl (G.2.1 2, 4, .inr (.inr (.inr (.inr (gRf G.2.2.1 93 4)))))
     else .inr (gOb G.2.2.1 k f))
  else .inl (G.2.1 0, gLen k, .inl f)
theorem gE_arr {G : gPar} {k : Nat} {f : Nat → Int32} (h : gLen k ≠ 0) : gE G k f = .inl (G.2.1 0, gLen k, .inl f) := if_neg h
theorem gE_0 {G : gPar} {f : Nat → Int32} : gE G 0 f = .inr (9, [.ref (G.2.2.1 1), .ref (G.2.2.1 43), .ref (G.2.2.1 85), .ref (G.2.2.1 92), .int (f 4), .int (f 5)]) := rfl
theorem gE_1 {G : gPar} {f : Nat → Int32} : gE G 1 f = .inr (0, [.ref (G.2.2.1 2), .ref (G.2.2.1 11), .ref (G.2.2.1 17), .ref (G.2.2.1 26), .ref (G.2.2.1 31), .ref (G.2.2.1 38), .int (f 6)]) := rfl
theorem gE_2 {G : gPar} {f : Nat → Int32} : gE G 2 f = .inr (4, [.int (f 0), .ref (G.2.2.1 3), .ref (G.2.2.1 4)]) := rfl
theorem gE_11 {G : gPar} {f : Nat → Int32} : gE G 11 f = .inr (5, [.int (f 0), .ref (G.2.2.1 12), .ref (G.2.2.1 13), .ref (G.2.2.1 14), .ref (G.2.2.1 15), .ref (G.2.2.1 16)]) := rfl
theorem gE_17 {G : gPar} {f : Nat → Int32} : gE G 17 f = .inr (1, [.int (f 0), .ref (G.2.2.1 18), .ref (G.2.2.1 19), .ref (G.2.2.1 20), .ref (G.2.2.1 21), .ref (G.2.2.1 22), .ref (G.2.2.1 23), .ref (G.2.2.1 24), .ref (G.2.2.1 25)]) := rfl
theorem gE_26 {G : gPar} {f : Nat → Int32} : gE G 26 f = .inr (2, [.int (f 0), .ref (G.2.2.1 27), .ref (G.2.2.1 28), .ref (G.2.2.1 29), .ref (G.2.2.1 30)]) := rfl
theorem gE_31 {G : gPar} {f : Nat → Int32} : gE G 31 f = .inr (3, [.int (f 0), .ref (G.2.2.1 32), .ref (G.2.2.1 33), .ref (G.2.2.1 34), .ref (G.2.2.1 35), .ref (G.2.2.1 36), .ref (G.2.2.1 37)]) := rfl
theorem gE_38 {G : gPar} {f : Nat → Int32} : gE G 38 f = .inr (6, [.int (f 0), .ref (G.2.2.1 39), .ref (G.2.2.1 40), .ref (G.2.2.1 41), .ref (G.2.2.1 42)]) := rfl
theorem gE_43 {G : gPar} {f : Nat → Int32} : gE G 43 f = .inr (0, [.ref (G.2.2.1 44), .ref (G.2.2.1 53), .ref (G.2.2.1 59), .ref (G.2.2.1 68), .ref (G.2.2.1 73), .ref (G.2.2.1 80), .int (f 6)]) := rfl
theorem gE_44 {G : gPar} {f : Nat → Int32} : gE G 44 f = .inr (4, [.int (f 0), .ref (G.2.2.1 45), .ref (G.2.2.1 46)]) := rfl
theorem gE_53 {G : gPar} {f : Nat → Int32} : gE G 53 f = .inr (5, [.int (f 0), .ref (G.2.2.1 54), .ref (G.2.2.1 55), .ref (G.2.2.1 56), .ref (G.2.2.1 57), .ref (G.2.2.1 58)]) := rfl
theorem gE_59 {G : gPar} {f : Nat → Int32} : gE G 59 f = .inr (1, [.int (f 0), .ref (G.2.2.1 60), .ref (G.2.2.1 61), .ref (G.2.2.1 62), .ref (G.2.2.1 63), .ref (G.2.2.1 64), .ref (G.2.2.1 65), .ref (G.2.2.1 66), .ref (G.2.2.1 67)]) := rfl
theorem gE_68 {G : gPar} {f : Nat → Int32} : gE G 68 f = .inr (2, [.int (f 0), .ref (G.2.2.1 69), .ref (G.2.2.1 70), .ref (G.2.2.1 71), .ref (G.2.2.1 72)]) := rfl
theorem gE_73 {G : gPar} {f : Nat → Int32} : gE G 73 f = .inr (3, [.int (f 0), .ref (G.2.2.1 74), .ref (G.2.2.1 75), .ref (G.2.2.1 76), .ref (G.2.2.1 77), .ref (G.2.2.1 78), .ref (G.2.2.1 79)]) := rfl
theorem gE_80 {G : gPar} {f : Nat → Int32} : gE G 80 f = .inr (6, [.int (f 0), .ref (G.2.2.1 81), .ref (G.2.2.1 82), .ref (G.2.2.1 83), .ref (G.2.2.1 84)]) := rfl
theorem gE_85 {G : gPar} {f : Nat → Int32} : gE G 85 f = .inr (7, [.ref (G.2.2.1 1), .ref (G.2.2.1 86), .ref (G.2.2.1 87), .ref (G.2.2.1 88), .ref (G.2.2.1 89), .ref (G.2.2.1 90), .ref (G.2.2.1 91), .int (f 7), .int (f 8)]) := rfl
theorem gE_93 {G : gPar} {f : Nat → Int32} : gE G 93 f = .inr (8, [.int (f 0), .int (f 1), .ref (G.2.2.1 97)]) := rfl
theorem gE_94 {G : gPar} {f : Nat → Int32} : gE G 94 f = .inr (8, [.int (f 0), .int (f 1), .ref (G.2.2.1 98)]) := rfl
theorem gE_95 {G : gPar} {f : Nat → Int32} : gE G 95 f = .inr (8, [.int (f 0), .int (f 1), .ref (G.2.2.1 99)]) := rfl
theorem gE_96 {G : gPar} {f : Nat → Int32} : gE G 96 f = .inr (8, [.int (f 0), .int (f 1), .ref (G.2.2.1 100)]) := rfl
theorem gE_101 {G : gPar} {f : Nat → Int32} : gE G 101 f = .inr (10, [.ref (G.2.2.1 102), .ref (G.2.2.1 103), .int (f 2), .int (f 3), .ref (G.2.2.1 104), .ref (G.2.2.1 105), .ref (G.2.2.1 106), .int (f 7), .ref (G.2.2.1 107), .int (f 9), .ref (G.2.2.1 108), .ref (G.2.2.1 109), .ref (G.2.2.1 110)]) := rfl
theorem gE_sheet {G : gPar} {f : Nat → Int32} {j : Nat} (h : j < 4) : gE G (93 + j) f = .inr (8, [.int (f 0), .int (f 1), .ref (G.2.2.1 (97 + j))]) := by
  rcases (show j = 0 ∨ j = 1 ∨ j = 2 ∨ j = 3 by omega) with rfl | rfl | rfl | rfl <;> rfl
theorem gL_num {j : Nat} (h : j < 4) : gLen (97 + j) = 60 := by
  rcases (show j = 0 ∨ j = 1 ∨ j = 2 ∨ j = 3 by omega) with rfl | rfl | rfl | rfl <;> rfl
theorem gL_mile {j : Nat} (h : j < 6) : gLen (5 + j) = 6 := by
  rcases (show j = 0 ∨ j = 1 ∨ j = 2 ∨ j = 3 ∨ j = 4 ∨ j = 5 by omega) with rfl | rfl | rfl | rfl | rfl | rfl <;> rfl
theorem gL_mile2 {j : Nat} (h : j < 6) : gLen (47 + j) = 6 := by
  rcases (show j = 0 ∨ j = 1 ∨ j = 2 ∨ j = 3 ∨ j = 4 ∨ j = 5 by omega) with rfl | rfl | rfl | rfl | rfl | rfl <;> rfl
def gWl (G : gPar) (σ : gSt) : va_W := (List.range gN).map (fun k => (G.2.2.1 k, gE G k (σ k)))
theorem gWl_get {G : gPar} {σ : gSt} {k : Nat} (h : k < gN) : (gWl G σ)[k]? = some (G.2.2.1 k, gE G k (σ k)) := by
  unfold gWl
  rw [List.getElem?_map, List.getElem?_range h]
  rfl
theorem gWl_of {G : gPar} {σ : gSt} {k : Nat} {q : Nat × va_E} (h : (gWl G σ)[k]? = some q) : k < gN ∧ q = (G.2.2.1 k, gE G k (σ k)) := by
  by_cases hk : k < gN
  · rw [gWl_get hk] at h
    exact ⟨hk, (Option.some.inj h).symm⟩
  · unfold gWl at h
    rw [List.getElem?_eq_none (by simp; omega)] at h
    cases h
/-- one row anew -/
def gRow (σ : gSt) (k : Nat) (f : Nat → Int32) : gSt := fun k' => if k' = k then f else σ k'
def gUp (σ : gSt) (k j : Nat) (v : Int32) : gSt := gRow σ k (upd (σ k) j v)
theorem gRow_s {σ : gSt} {k : Nat} {f : Nat → Int32} : gRow σ k f k = f := if_pos rfl
theorem gRow_n {σ : gSt} {k k' : Nat} {f : Nat → Int32} (h : k' ≠ k) : gRow σ k f k' = σ k' := if_neg h
theorem gWl_set {G : gPar} {σ : gSt} {k : Nat} {f : Nat → Int32} (hk : k < gN) : (gWl G σ).set k (G.2.2.1 k, gE G k f) = gWl G (gRow σ k f) := by
  apply List.ext_getElem?
  intro i
  by_cases hi : i < gN
  · rw [gWl_get hi]
    by_cases e : k = i
    · subst e
      rw [List.getElem?_set_self (by unfold gWl; simp; omega), gRow_s]
    · rw [List.getElem?_set_ne e, gWl_get hi, gRow_n (fun h => e h.symm)]
  · rw [List.getElem?_eq_none (by unfold gWl; simp; omega), List.getElem?_eq_none (by unfold gWl; simp; omega)]
def gW (G : gPar) (σ : gSt) (H : Heap) : Prop := va_P G.1 vwCl (gWl G σ) H
def gA (G : gPar) : Nat → Prop := fun q => ∃ k, k < gN ∧ G.2.2.1 k = q
def gD (G : gPar) : Prop := ∀ i j : Nat, i < gN → j < gN → G.2.2.1 i = G.2.2.1 j → i = j
theorem gD.D {G : gPar} {σ : gSt} (h : gD G) : va_D (gA G) (gWl G σ) := by
  refine ⟨fun i j x y hi hj hxy => ?_, fun k q hk => ?_⟩
  · obtain ⟨hi2, rfl⟩ := gWl_of hi
    obtain ⟨hj2, rfl⟩ := gWl_of hj
    exact h i j hi2 hj2 hxy
  · obtain ⟨hk2, rfl⟩ := gWl_of hk
    exact ⟨k, hk2, rfl⟩
def gTy (G : gPar) : List (ClassId × FieldType) := [(G.2.1 0, .int), (G.2.1 1, .array .int), (G.2.1 2, .object "PoorDesk$Sheet")]
def gNest : List Cond := [.methodLinkNest "PoorDesk$Facts" 40 yX9_copyRow "PoorDesk", .methodLinkNest "PoorDesk$Laws" 32 yX9_copyRow "PoorDesk", .methodLinkNest "PoorDesk$Orders" 34 yX9_copyRow "PoorDesk", .methodLinkNest "PoorDesk$Parishes" 24 yX9_copyRow "PoorDesk", .methodLinkNest "PoorDesk$Persons" 38 yX9_copyRow "PoorDesk", .methodLinkNest "PoorDesk$Poor" 72 yX9_within "PoorDesk", .methodLinkNest "PoorDesk$Poor" 76 yX9_copyRow "PoorDesk"]
theorem gNest_warm {s U : State} (hW : s.WarmedH U.vm) (h : ∀ w ∈ gNest, va_Nw w s) : ∀ w ∈ gNest, va_Nw w U := by
  intro w hw
  have h1 := h w hw
  simp only [gNest, List.mem_cons, List.not_mem_nil, or_false] at hw
  rcases hw with rfl | rfl | rfl | rfl | rfl | rfl | rfl <;> exact va_Nw.warmM hW h1
theorem gNest_same {s U : State} (hv : s.vm = U.vm) (h : ∀ w ∈ gNest, va_Nw w s) : ∀ w ∈ gNest, va_Nw w U := by
  intro w hw
  have h1 := h w hw
  simp only [gNest, List.mem_cons, List.not_mem_nil, or_false] at hw
  rcases hw with rfl | rfl | rfl | rfl | rfl | rfl | rfl <;> exact va_Nw.same rfl hv h1
/-- KIND_OVER's places -/
def gKO (j : Nat) : Int32 := [(-1 : Int32), 0, 0, 2].getD j 0
def gEnv (G : gPar) (U : State) : Prop := gD G ∧ va_K G.1 vwCl (gTy G) U ∧ (∀ w ∈ gNest, va_Nw w U) ∧ va_Z "PoorDesk$Persons" "KIND_OVER" "[I" (.ref G.2.2.2) (gA G) U U.heap ∧ va_T .int G.2.2.2 4 (fun j => .int (gKO j)) (gA G) U U.heap
theorem gEnv.go {G : gPar} {s U : State} {H : Heap} {locs : List Loc} {A0 : Nat → Prop} (h : gEnv G s) (hS : va_S A0 s.heap H locs) (hA : ∀ q, q < s.heap.size → ¬ gA G q → ¬ A0 q) (hW : s.WarmedH U.vm) (hU : U.heap = H) : gEnv G U := by
  obtain ⟨h1, h2, h3, h4, h5⟩ := h
  have hq : ∀ a : Nat, a < s.heap.size → ¬ gA G a → U.heap[a]? = s.heap[a]? := fun a ha hn => by rw [hU]; exact hS.2.1 a ha (hA a ha hn)
  exact ⟨h1, va_K.moved hW.alike h2, gNest_warm hW h3, (h4.moved hW.alike).kept hq, (h5.moved hW.alike).kept hq⟩
theorem gEnv.same {G : gPar} {s U : State} (h : gEnv G s) (hv : s.vm = U.vm) (hh : s.heap = U.heap) : gEnv G U := by
  obtain ⟨h1, h2, h3, h4, h5⟩ := h
  have ha : s.vm.Alike U.vm := by rw [hv]; exact Vm.Alike.refl _
  exact ⟨h1, va_K.moved ha h2, gNest_same hv h3, by rw [← hh]; exact h4.moved ha, by rw [← hh]; exact h5.moved ha⟩
/-- the words: all that are steady -/
def gTb : List Cond := lw_tbl.filter goodWord
theorem gTb_of {w : Cond} (i : Nat) (h : lw_tbl[i]? = some w) (hg : goodWord w = true) : w ∈ gTb := List.mem_filter.mpr ⟨List.mem_of_getElem? h, hg⟩
theorem gTb_in {w : Cond} (h : w ∈ gTb) : w ∈ lw_tbl := (List.mem_filter.mp h).1
theorem gTb_good {w : Cond} (h : w ∈ gTb) : (w.onTables && w.keeps) = true ∨ ∃ ty, w = .arrayClass ty := good_of_word (List.mem_filter.mp h).2
def gQ (G : gPar) (r : Int32) (σ' : gSt) : Array Value → State → Outcome → State → Prop := va_Qi (fun (r1 : Int32) (u : gSt) => r1 = r ∧ u = σ') (fun u t => gEnv G t ∧ gW G u t.heap) (gA G)
def gQv (G : gPar) (σ' : gSt) : Array Value → State → Outcome → State → Prop := va_Qv (fun (u : gSt) => u = σ') (fun u t => gEnv G t ∧ gW G u t.heap) (gA G)
abbrev gPc (G : gPar) (av : List Value) (σ : gSt) : Array Value → State → Prop := va_Pc av (fun U => gEnv G U ∧ gW G σ U.heap)
abbrev gRm (fr lo : Nat) : Room := { frames := fr, cells := 0, slots := 0, locals := lo }
/-- a method's contract: from the world σ, at these arguments, it answers r and leaves the world σ' -/
def gC (l : Launch) (G : gPar) (y : MethodName) (cc : ByteArray) (n : Nat) (ret : Option FieldType) (fr lo : Nat) (av : List Value) (σ : gSt) (r : Int32) (σ' : gSt) : Prop := Met l y (.code y cc n ret :: gTb) (gRm fr lo) (gPc G av σ) (gQ G r σ') 0 0 (gA G)
def gV (l : Launch) (G : gPar) (y : MethodName) (cc : ByteArray) (n : Nat) (fr lo : Nat) (av : List Value) (σ : gSt) (σ' : gSt) : Prop := Met l y (.code y cc n none :: gTb) (gRm fr lo) (gPc G av σ) (gQv G σ') 0 0 (gA G)
theorem gPc_blind {G : gPar} {av : List Value} {σ : gSt} : FrameBlind (gPc G av σ) := fun a U g mk q => by
  obtain ⟨q0, q1, q2⟩ := q
  exact ⟨q0, q1.same rfl rfl, q2⟩
theorem gC_of {l : Launch} {G : gPar} {y : MethodName} {cc : ByteArray} {n : Nat} {ret : Option FieldType} {fr lo : Nat} {av : List Value} {σ : gSt} {r : Int32} {σ' : gSt} (hy : plainName y.cls = true) (hn : (lg_sl av).length ≤ n)
    (body : ∀ p e s m below meth c, p.tables.exec = Jvm.exec → c.code = cc → meth.sig.returnType = ret → (∀ w ∈ gTb, w.before av.toArray s = true) → s.vm.findClass y.cls = some m.cls → meth.locks = false → c.maxLocals = n → gEnv G s → gW G σ s.heap → ∀ ls, lv_has ls n (lv_args 0 av) →
      W p l e (gRm fr lo) s m av.toArray below meth c s.heap [] 0 0 (MQ below (gQ G r σ') av.toArray s 0 0 (gA G)) (F0 m 0 ls [])) : gC l G y cc n ret fr lo av σ r σ' := by
  refine Met.ofW (cc := cc) (maxL := n) (ret := ret) hy rfl ?_
  intro p e s m args below meth c s₁ B hml hv
  obtain ⟨rfl, hE, hP⟩ := hv
  have hts := atoms_spec (ws := .code y cc n ret :: gTb) B.pre
  rw [lg_entry_eq]
  exact body p e s m below meth c B.exec B.bytes B.returns (fun w hw => hts w (List.mem_cons_of_mem _ hw)) (findClass_of_methodNamed B.named) B.notSynchronized hml hE hP _ (lv_entry av hn)
theorem gV_of {l : Launch} {G : gPar} {y : MethodName} {cc : ByteArray} {n : Nat} {fr lo : Nat} {av : List Value} {σ : gSt} {σ' : gSt} (hy : plainName y.cls = true) (hn : (lg_sl av).length ≤ n)
    (body : ∀ p e s m below meth c, p.tables.exec = Jvm.exec → c.code = cc → meth.sig.returnType = none → (∀ w ∈ gTb, w.before av.toArray s = true) → s.vm.findClass y.cls = some m.cls → meth.locks = false → c.maxLocals = n → gEnv G s → gW G σ s.heap → ∀ ls, lv_has ls n (lv_args 0 av) →
      W p l e (gRm fr lo) s m av.toArray below meth c s.heap [] 0 0 (MQ below (gQv G σ') av.toArray s 0 0 (gA G)) (F0 m 0 ls [])) : gV l G y cc n fr lo av σ σ' := by
  refine Met.ofW (cc := cc) (maxL := n) (ret := none) hy rfl ?_
  intro p e s m args below meth c s₁ B hml hv
  obtain ⟨rfl, hE, hP⟩ := hv
  have hts := atoms_spec (ws := .code y cc n none :: gTb) B.pre
  rw [lg_entry_eq]
  exact body p e s m below meth c B.exec B.bytes B.returns (fun w hw => hts w (List.mem_cons_of_mem _ hw)) (findClass_of_methodNamed B.named) B.notSynchronized hml hE hP _ (lv_entry av hn)
/-! ===== what a method's function is made of ===== -/
abbrev gO : Type := Option (Int32 × gSt)
def gFu : Nat := 1000
/-- an index into an array of n places -/
def gIx {α : Type} (n : Nat) (i : Int32) (X : Option α) : Option α := if i < 0 ∨ n ≤ i.toNatClampNeg then none else X
/-- a number gets a name -/
def gNm {α β : Type} (x : α) (K : α → β) : β := K x
/-- a call -/
def gBd {α : Type} (x : gO) (K : Int32 → gSt → Option α) : Option α := match x with
  | none => none
  | some q => K q.1 q.2
/-- what must hold lest the machine throws -/
def gGd {α : Type} (c : Prop) [Decidable c] (X : Option α) : Option α := if c then X else none
theorem g_ix {α : Type} {n : Nat} {i : Int32} {X : Option α} {R : α} (h : gIx n i X = some R) : vp_in i n ∧ X = some R := by
  unfold gIx at h
  by_cases c : i < 0 ∨ n ≤ i.toNatClampNeg
  · rw [if_pos c] at h
    cases h
  · rw [if_neg c] at h
    exact ⟨c, h⟩
theorem g_nm {α β : Type} {x y : α} {K : α → β} {R : β} (e : y = x) (h : gNm x K = R) : K y = R := by
  subst e
  exact h
theorem g_bd {α : Type} {x : gO} {K : Int32 → gSt → Option α} {R : α} (h : gBd x K = some R) : ∃ (r : Int32) (u : gSt), x = some (r, u) ∧ K r u = some R := by
  cases x with
  | none => cases h
  | some q => exact ⟨q.1, q.2, rfl, h⟩
theorem g_gd {α : Type} {c : Prop} [Decidable c] {X : Option α} {R : α} (h : gGd c X = some R) : c ∧ X = some R := by
  unfold gGd at h
  by_cases hc : c
  · rw [if_pos hc] at h
    exact ⟨hc, h⟩
  · rw [if_neg hc] at h
    cases h
theorem g_ift {α : Type} {c : Prop} [Decidable c] {X Y Z : α} (hc : c) (h : (if c then X else Y) = Z) : X = Z := by
  rw [if_pos hc] at h
  exact h
theorem g_iff {α : Type} {c : Prop} [Decidable c] {X Y Z : α} (hc : ¬ c) (h : (if c then X else Y) = Z) : Y = Z := by
  rw [if_neg hc] at h
  exact h
/-! ===== rows ===== -/
section GR
variable {p : Program} {l : Launch} {e : Env} {R : Room} {s : State} {m : MethodId} {args : Array Value} {below : List Frame} {meth : Method} {c : Code} {H : Heap} {locs : List Loc} {cells slots : Nat} {Q : State → Prop}
variable {cc : ByteArray} {pc : Nat} {ls : Array Slot} {rest : List Value} {G : gPar} {σ : gSt} {A0 : Nat → Prop}
theorem g_get {own ref C : String} {T : u_T} {N ci index : Nat} {fs : List Value} {v : Value} (hx : p.tables.exec = Jvm.exec) (hb : c.code = cc) (ht : ∀ w ∈ gTb, w.before args s = true) (hown : s.vm.findClass own = some m.cls) (hE : gEnv G s) (hP : gW G σ H)
    {k : Nat} (hk : k < gN) (he : gE G k (σ k) = .inr (ci, fs)) (hin : ∀ w ∈ u_ws C T N, w ∈ gTb) (hc : vwCl[ci]? = some (C, T, N)) (j : Nat) (hj : j < N) (hl : Cond.fieldLink own index ref (T j).2.1 (T j).2.2.1 ∈ gTb) (hr : ref = (T j).1) (hv : fs[j]? = some v) (hdg : decode cc pc = .ok (.getfield index, 3))
    (kk : W p l e R s m args below meth c H locs cells slots Q (F0 m (pc + 3) ls (v :: rest))) : W p l e R s m args below meth c H locs cells slots Q (F0 m pc ls (.ref (G.2.2.1 k) :: rest)) := by
  subst hr
  exact va_get hx hb ht hin hown hE.2.1 hP k (by rw [gWl_get hk, he]) hc j hj (ht _ hl) (fun _ h9 => h9) hv hdg kk
theorem g_put {own ref C : String} {T : u_T} {N ci index : Nat} {fs : List Value} {v : Int32} {ty : FieldType} {ty0 : Nat → FieldType} (hx : p.tables.exec = Jvm.exec) (hb : c.code = cc) (ht : ∀ w ∈ gTb, w.before args s = true) (hown : s.vm.findClass own = some m.cls) (hE : gEnv G s) (hP : gW G σ H) (hS : va_S (gA G) s.heap H locs)
    {k : Nat} (hk : k < gN) (he : gE G k (σ k) = .inr (ci, fs)) (hin : ∀ w ∈ u_ws C T N, w ∈ gTb) (hty : ∀ k, k < N → parseFieldDescriptor (T k).2.2.1 = some (ty0 k)) (hnm : ∀ a, a < N → ∀ b, b < N → a ≠ b → (T a).2.1 ≠ (T b).2.1) (hc : vwCl[ci]? = some (C, T, N)) (j : Nat) (hj : j < N) (hl : Cond.fieldLink own index ref (T j).2.1 (T j).2.2.1 ∈ gTb) (hr : ref = (T j).1)
    (hfin : (T j).2.2.2 = false) (hd : ty0 j = ty) (hn : narrow ty (.int v) = .int v) (hfit : fits ty (.int v) = true) (hlen : j < fs.length) (hset : gE G k (upd (σ k) j v) = .inr (ci, fs.set j (.int v))) (hdg : decode cc pc = .ok (.putfield index, 3))
    (kk : ∀ (H1 : Heap) (locs1 : List Loc) (σ1 : gSt), σ1 = gUp σ k j v → gW G σ1 H1 → va_S (gA G) s.heap H1 locs1 → W p l e R s m args below meth c H1 locs1 cells slots Q (F0 m (pc + 3) ls rest)) : W p l e R s m args below meth c H locs cells slots Q (F0 m pc ls (.int v :: .ref (G.2.2.1 k) :: rest)) := by
  subst hr
  subst hd
  refine va_put hx hb ht hin ty0 hty hnm hown hE.2.1 hP hE.1.D hS k (by rw [gWl_get hk, he]) hc j hj (ht _ hl) (fun _ h9 => h9) hfin (hty j hj) hn hfit hlen hdg (fun H1 locs1 hP1 hD1 hS1 => ?_)
  rw [← hset, gWl_set hk] at hP1
  exact kk H1 locs1 _ rfl hP1 hS1
theorem g_iald (hx : p.tables.exec = Jvm.exec) (hb : c.code = cc) (hE : gEnv G s) (hP : gW G σ H) {k n : Nat} (hk : k < gN) (hL : gLen k = n) (hn : n ≠ 0) {i : Int32} (hin : vp_in i n) (hdg : decode cc pc = .ok (.iaload, 1))
    (kk : W p l e R s m args below meth c H locs cells slots Q (F0 m (pc + 1) ls (.int (σ k i.toNatClampNeg) :: rest))) : W p l e R s m args below meth c H locs cells slots Q (F0 m pc ls (.int i :: .ref (G.2.2.1 k) :: rest)) := by
  subst hL
  exact va_iald hx hb hE.2.1 hP k 0 (by rw [gWl_get hk, gE_arr hn]) rfl hin hdg kk
theorem g_iast (hx : p.tables.exec = Jvm.exec) (hb : c.code = cc) (hE : gEnv G s) (hP : gW G σ H) (hS : va_S (gA G) s.heap H locs) {k n : Nat} (hk : k < gN) (hL : gLen k = n) (hn : n ≠ 0) {i x : Int32} (hin : vp_in i n) (hdg : decode cc pc = .ok (.iastore, 1))
    (kk : ∀ (H1 : Heap) (locs1 : List Loc) (σ1 : gSt), σ1 = gUp σ k i.toNatClampNeg x → gW G σ1 H1 → va_S (gA G) s.heap H1 locs1 → W p l e R s m args below meth c H1 locs1 cells slots Q (F0 m (pc + 1) ls rest)) : W p l e R s m args below meth c H locs cells slots Q (F0 m pc ls (.int x :: .int i :: .ref (G.2.2.1 k) :: rest)) := by
  subst hL
  refine va_iast hx hb hE.2.1 hP hE.1.D hS k 0 (by rw [gWl_get hk, gE_arr hn]) rfl hin hdg (fun H1 locs1 hP1 hD1 hS1 => ?_)
  rw [← gE_arr hn, gWl_set hk] at hP1
  exact kk H1 locs1 _ rfl hP1 hS1
theorem g_alen (hx : p.tables.exec = Jvm.exec) (hb : c.code = cc) (hE : gEnv G s) (hP : gW G σ H) {k n : Nat} (hk : k < gN) (hL : gLen k = n) (hn : n ≠ 0) {v : Int32} (hv : Int32.ofNat n = v) (hdg : decode cc pc = .ok (.arraylength, 1))
    (kk : W p l e R s m args below meth c H locs cells slots Q (F0 m (pc + 1) ls (.int v :: rest))) : W p l e R s m args below meth c H locs cells slots Q (F0 m pc ls (.ref (G.2.2.1 k) :: rest)) := by
  subst hL
  exact va_alen hx hb hE.2.1 hP k 0 (by rw [gWl_get hk, gE_arr hn]) rfl hv hdg kk
/-- a row of miles, a sheet -/
theorem g_aald (hx : p.tables.exec = Jvm.exec) (hb : c.code = cc) (hE : gEnv G s) (hP : gW G σ H) {k b n : Nat} (t0 : Nat) {cA : ClassId} {ty : FieldType} (hk : k < gN) (he : gE G k (σ k) = .inl (cA, n, .inr (.inr (.inr (.inr (gRf G.2.2.1 b n)))))) (ht : (gTy G)[t0]? = some (cA, ty)) (hty : ty.isReference = true) {i : Int32} (hin : vp_in i n) (hdg : decode cc pc = .ok (.aaload, 1))
    (kk : W p l e R s m args below meth c H locs cells slots Q (F0 m (pc + 1) ls (.ref (G.2.2.1 (b + i.toNatClampNeg)) :: rest))) : W p l e R s m args below meth c H locs cells slots Q (F0 m pc ls (.int i :: .ref (G.2.2.1 k) :: rest)) := by
  have hlt : i.toNatClampNeg < n := Nat.not_le.mp fun q => hin (Or.inr q)
  have hv : va_rf (gRf G.2.2.1 b n i.toNatClampNeg) = .ref (G.2.2.1 (b + i.toNatClampNeg)) := by
    unfold gRf
    rw [if_pos hlt]
    rfl
  have hcell := hP k _ (by rw [gWl_get hk, he])
  refine W.aald (v := va_rf (gRf G.2.2.1 b n i.toNatClampNeg)) (ty := ty) hx hb hcell ((hE.2.1.2 t0 _ ht).1 n (fun j => va_rf (gRf G.2.2.1 b n j))) hty (fun q => by cases q) (by show ¬ (i < 0 ∨ (arrV _ _ _).slots.size ≤ _); rw [arrV_size]; exact hin) (by show (arrV _ _ _).slots[_]? = _; rw [arrV_read _ _ hlt]) rfl rfl hdg ?_
  rw [hv]
  exact kk
theorem g_lt {i : Int32} {n : Nat} (h : vp_in i n) : i.toNatClampNeg < n := Nat.not_le.mp fun q => h (Or.inr q)
theorem g_kget (hx : p.tables.exec = Jvm.exec) (hb : c.code = cc) (ht : ∀ w ∈ gTb, w.before args s = true) {own : String} {index : Nat} (hown : s.vm.findClass own = some m.cls) (hE : gEnv G s) (hS : va_S (gA G) s.heap H locs) (hl : Cond.fieldLink own index "PoorDesk$Persons" "KIND_OVER" "[I" ∈ gTb) (hdg : decode cc pc = .ok (.getstatic index, 3))
    (kk : W p l e R s m args below meth c H locs cells slots Q (F0 m (pc + 3) ls (.ref G.2.2.2 :: rest))) : W p l e R s m args below meth c H locs cells slots Q (F0 m pc ls rest) :=
  va_gets hx hb hE.2.2.2.1 hS hown (ht _ hl) (fun _ h => h) hdg kk
theorem g_klen (hx : p.tables.exec = Jvm.exec) (hb : c.code = cc) (hE : gEnv G s) (hS : va_S (gA G) s.heap H locs) (hdg : decode cc pc = .ok (.arraylength, 1))
    (kk : W p l e R s m args below meth c H locs cells slots Q (F0 m (pc + 1) ls (.int 4 :: rest))) : W p l e R s m args below meth c H locs cells slots Q (F0 m pc ls (.ref G.2.2.2 :: rest)) :=
  va_tlen hx hb hE.2.2.2.2 hS rfl hdg kk
theorem g_kald (hx : p.tables.exec = Jvm.exec) (hb : c.code = cc) (hE : gEnv G s) (hS : va_S (gA G) s.heap H locs) {i : Int32} (hin : vp_in i 4) (hdg : decode cc pc = .ok (.iaload, 1))
    (kk : W p l e R s m args below meth c H locs cells slots Q (F0 m (pc + 1) ls (.int (gKO i.toNatClampNeg) :: rest))) : W p l e R s m args below meth c H locs cells slots Q (F0 m pc ls (.int i :: .ref G.2.2.2 :: rest)) :=
  va_ti hx hb hE.2.2.2.2 hS hin rfl hdg kk
theorem g_iret (hx : p.tables.exec = Jvm.exec) (hb : c.code = cc) (hr : meth.sig.returnType = some .int) (hlk : meth.locks = false) (hE : gEnv G s) (hP : gW G σ H) (hS : va_S (gA G) s.heap H locs) {v r : Int32} {σ' : gSt} (h : some (v, σ) = some (r, σ')) (hdg : decode cc pc = .ok (.ireturn, 1)) :
    W p l e R s m args below meth c H locs 0 0 (MQ below (gQ G r σ') args s 0 0 (gA G)) (F0 m pc ls [.int v]) := by
  cases h
  exact W.iret hx hb hr (fun t ht hW => ⟨⟨v, σ, rfl, ⟨rfl, rfl⟩, hE.go hS (fun _ _ h => h) hW ht, by rw [ht]; exact hP⟩, hS.F ht⟩) hS.2.2 hdg hlk
theorem g_zret (hx : p.tables.exec = Jvm.exec) (hb : c.code = cc) (hr : meth.sig.returnType = some .boolean) (hlk : meth.locks = false) (hE : gEnv G s) (hP : gW G σ H) (hS : va_S (gA G) s.heap H locs) {v r : Int32} {σ' : gSt} (hz : v = 0 ∨ v = 1) (h : some (v, σ) = some (r, σ')) (hdg : decode cc pc = .ok (.ireturn, 1)) :
    W p l e R s m args below meth c H locs 0 0 (MQ below (gQ G r σ') args s 0 0 (gA G)) (F0 m pc ls [.int v]) := by
  cases h
  exact W.zret hx hb hr (by rcases hz with rfl | rfl <;> rfl) (fun t ht hW => ⟨⟨v, σ, rfl, ⟨rfl, rfl⟩, hE.go hS (fun _ _ h => h) hW ht, by rw [ht]; exact hP⟩, hS.F ht⟩) hS.2.2 hdg hlk
theorem g_vret (hx : p.tables.exec = Jvm.exec) (hb : c.code = cc) (hr : meth.sig.returnType = none) (hlk : meth.locks = false) (hE : gEnv G s) (hP : gW G σ H) (hS : va_S (gA G) s.heap H locs) {v r : Int32} {σ' : gSt} (h : some (v, σ) = some (r, σ')) (hdg : decode cc pc = .ok (.return_, 1)) :
    W p l e R s m args below meth c H locs 0 0 (MQ below (gQv G σ') args s 0 0 (gA G)) (F0 m pc ls []) := by
  cases h
  exact W.vret hx hb hr (fun t ht hW => ⟨⟨σ, rfl, rfl, hE.go hS (fun _ _ h => h) hW ht, by rw [ht]; exact hP⟩, hS.F ht⟩) hS.2.2 hdg hlk
theorem g_recv (hE : gEnv G s) (hP : gW G σ H) {k ci : Nat} {fs : List Value} {q : vw_C} (hk : k < gN) (he : gE G k (σ k) = .inr (ci, fs)) (hc : vwCl[ci]? = some q) : ∃ cell : Cell, H[G.2.2.1 k]? = some cell ∧ cell.vm.isStatics = false ∧ s.vm.findClass q.1 = some cell.cls :=
  va_recv hE.2.1 hP hc (by rw [gWl_get hk, he])
theorem g_goodV {own C : String} {index : Nat} {y : MethodName} {bytes : ByteArray} {maxL : Nat} {ret : Option FieldType} (h1 : Cond.methodLink own index y ∈ gTb) (h2 : Cond.instanceMethod y ∈ gTb) (h3 : Cond.selects C y y ∈ gTb) (h4 : Cond.initialized C ∈ gTb) (h5 : Cond.code y bytes maxL ret ∈ gTb) : GoodIn gTb (wsV own index C y (.code y bytes maxL ret :: gTb)) := by
  intro w hw
  have hm : w ∈ gTb := by
    simp only [wsV, List.cons_append, List.nil_append, List.mem_cons] at hw
    rcases hw with rfl | rfl | rfl | rfl | rfl | hw
    · exact h1
    · exact h2
    · exact h3
    · exact h4
    · exact h5
    · exact hw
  exact ⟨hm, gTb_good hm⟩
theorem g_good {y : MethodName} {bytes : ByteArray} {maxL : Nat} {ret : Option FieldType} (h5 : Cond.code y bytes maxL ret ∈ gTb) : GoodIn gTb (.code y bytes maxL ret :: gTb) := by
  intro w hw
  have hm : w ∈ gTb := by
    rcases List.mem_cons.mp hw with rfl | hw
    · exact h5
    · exact hw
  exact ⟨hm, gTb_good hm⟩
end GR
end
section
/-! ===== calls over the one world ===== -/
section GC
variable {p : Program} {l : Launch} {e : Env} {R : Room} {s : State} {m : MethodId} {args : Array Value} {below : List Frame} {meth : Method} {c : Code} {H : Heap} {locs : List Loc} {cells slots : Nat} {Q : State → Prop}
variable {cc : ByteArray} {pc : Nat} {ls : Array Slot} {G : gPar} {σ σ' : gSt} {A0 : Nat → Prop} {r : Int32}
variable {own C : String} {y : MethodName} {bytes : ByteArray} {maxL index n nL fr lo k ci N : Nat} {ret : Option FieldType} {fs As rest st : List Value} {T : u_T}
theorem g_callV (hx : p.tables.exec = Jvm.exec) (hb : c.code = cc) (hml : c.maxLocals = nL) (hown : s.vm.findClass own = some m.cls) (ht : ∀ w ∈ gTb, w.before args s = true)
    (hM : gC l G y bytes maxL ret fr lo (.ref (G.2.2.1 k) :: As) σ r σ') (w1 : Cond.methodLink own index y ∈ gTb) (w2 : Cond.instanceMethod y ∈ gTb) (w3 : Cond.selects C y y ∈ gTb) (w4 : Cond.initialized C ∈ gTb) (w5 : Cond.code y bytes maxL ret ∈ gTb)
    (hd : y.cls = C ∧ y.cls ≠ "java/lang/invoke/MethodHandle" ∧ y.cls ≠ "java/lang/invoke/VarHandle" ∧ (parseMethodDescriptor y.desc).map (fun d => d.parameters.length) = some n)
    (hk : k < gN) (he : gE G k (σ k) = .inr (ci, fs)) (hc : vwCl[ci]? = some (C, T, N)) (hE : gEnv G s) (hP : gW G σ H) (hS : va_S A0 s.heap H locs) (hA : ∀ q, gA G q → A0 q) (hA2 : ∀ q, q < s.heap.size → ¬ gA G q → ¬ A0 q)
    (hn : As.length = n) (hsize : ls.size = nL) (hstack : st = As.reverse ++ .ref (G.2.2.1 k) :: rest) (hW : (rest.map fun v => v.category).sum ≤ 8) (hdg : decode cc pc = .ok (.invokevirtual index, 3))
    (hR : fr + 1 ≤ R.frames ∧ 8 + (maxL + 11) + lo ≤ R.locals) (hf : cells ≤ R.cells ∧ slots ≤ R.slots)
    (kk : ∀ (H1 : Heap) (locs1 : List Loc), gW G σ' H1 → va_S A0 s.heap H1 locs1 → W p l e R s m args below meth c H1 locs1 cells slots Q (F0 m (pc + 3) ls (.int r :: rest))) : W p l e R s m args below meth c H locs cells slots Q (F0 m pc ls st) := by
  refine va_calli (va_runV (g := F0 m pc ls st) (rest := rest) ⟨hx, hb, hml, hown, ht⟩ hM (cwV n ht (g_goodV w1 w2 w3 w4 w5) rfl rfl rfl hd hR) ⟨gPc_blind, g_recv hE hP hk he hc, fun U hU hWm => ⟨rfl, hE.go hS hA2 hWm hU, by rw [hU]; exact hP⟩⟩ rfl hn hsize hstack (lv_room hW) hdg hf) hS (fun q _ h => hA q h) hA (fun r1 u t H1 locs1 ht1 hvm hw hB hz hk1 hS1 => ?_)
  obtain ⟨rfl, rfl⟩ := hw
  exact kk H1 locs1 (by rw [← ht1]; exact hB.2) hS1
theorem g_callVv (hx : p.tables.exec = Jvm.exec) (hb : c.code = cc) (hml : c.maxLocals = nL) (hown : s.vm.findClass own = some m.cls) (ht : ∀ w ∈ gTb, w.before args s = true)
    (hM : gV l G y bytes maxL fr lo (.ref (G.2.2.1 k) :: As) σ σ') (w1 : Cond.methodLink own index y ∈ gTb) (w2 : Cond.instanceMethod y ∈ gTb) (w3 : Cond.selects C y y ∈ gTb) (w4 : Cond.initialized C ∈ gTb) (w5 : Cond.code y bytes maxL none ∈ gTb)
    (hd : y.cls = C ∧ y.cls ≠ "java/lang/invoke/MethodHandle" ∧ y.cls ≠ "java/lang/invoke/VarHandle" ∧ (parseMethodDescriptor y.desc).map (fun d => d.parameters.length) = some n)
    (hk : k < gN) (he : gE G k (σ k) = .inr (ci, fs)) (hc : vwCl[ci]? = some (C, T, N)) (hE : gEnv G s) (hP : gW G σ H) (hS : va_S A0 s.heap H locs) (hA : ∀ q, gA G q → A0 q) (hA2 : ∀ q, q < s.heap.size → ¬ gA G q → ¬ A0 q)
    (hn : As.length = n) (hsize : ls.size = nL) (hstack : st = As.reverse ++ .ref (G.2.2.1 k) :: rest) (hW : (rest.map fun v => v.category).sum ≤ 8) (hdg : decode cc pc = .ok (.invokevirtual index, 3))
    (hR : fr + 1 ≤ R.frames ∧ 8 + (maxL + 11) + lo ≤ R.locals) (hf : cells ≤ R.cells ∧ slots ≤ R.slots)
    (kk : ∀ (H1 : Heap) (locs1 : List Loc), gW G σ' H1 → va_S A0 s.heap H1 locs1 → W p l e R s m args below meth c H1 locs1 cells slots Q (F0 m (pc + 3) ls rest)) : W p l e R s m args below meth c H locs cells slots Q (F0 m pc ls st) := by
  refine va_callv (va_runV (g := F0 m pc ls st) (rest := rest) ⟨hx, hb, hml, hown, ht⟩ hM (cwV n ht (g_goodV w1 w2 w3 w4 w5) rfl rfl rfl hd hR) ⟨gPc_blind, g_recv hE hP hk he hc, fun U hU hWm => ⟨rfl, hE.go hS hA2 hWm hU, by rw [hU]; exact hP⟩⟩ rfl hn hsize hstack (lv_room hW) hdg hf) hS (fun q _ h => hA q h) hA (fun u t H1 locs1 ht1 hvm hw hB hz hk1 hS1 => ?_)
  subst hw
  exact kk H1 locs1 (by rw [← ht1]; exact hB.2) hS1
theorem g_goodS {own : String} {index : Nat} {y : MethodName} {bytes : ByteArray} {maxL : Nat} {ret : Option FieldType} (h1 : Cond.methodLink own index y ∈ gTb) (h2 : Cond.static y ∈ gTb) (h4 : Cond.initialized y.cls ∈ gTb) (h5 : Cond.code y bytes maxL ret ∈ gTb) : GoodIn gTb (va_wsS own index y (.code y bytes maxL ret :: gTb)) := by
  intro w hw
  have hm : w ∈ gTb := by
    simp only [va_wsS, List.cons_append, List.nil_append, List.mem_cons] at hw
    rcases hw with rfl | rfl | rfl | rfl | hw
    · exact h1
    · exact h2
    · exact h4
    · exact h5
    · exact hw
  exact ⟨hm, gTb_good hm⟩
theorem g_callS (hx : p.tables.exec = Jvm.exec) (hb : c.code = cc) (hml : c.maxLocals = nL) (hown : s.vm.findClass own = some m.cls) (ht : ∀ w ∈ gTb, w.before args s = true)
    (hM : gC l G y bytes maxL ret fr lo As σ r σ') (w1 : Cond.methodLink own index y ∈ gTb) (w2 : Cond.static y ∈ gTb) (w4 : Cond.initialized y.cls ∈ gTb) (w5 : Cond.code y bytes maxL ret ∈ gTb)
    (hd : y.cls ≠ "java/lang/invoke/MethodHandle" ∧ y.cls ≠ "java/lang/invoke/VarHandle" ∧ (parseMethodDescriptor y.desc).map (fun d => d.parameters.length) = some n)
    (hE : gEnv G s) (hP : gW G σ H) (hS : va_S A0 s.heap H locs) (hA : ∀ q, gA G q → A0 q) (hA2 : ∀ q, q < s.heap.size → ¬ gA G q → ¬ A0 q)
    (hn : As.length = n) (hsize : ls.size = nL) (hstack : st = As.reverse ++ rest) (hW : (rest.map fun v => v.category).sum ≤ 8) (hdg : decode cc pc = .ok (.invokestatic index, 3))
    (hR : fr + 1 ≤ R.frames ∧ 8 + (maxL + 11) + lo ≤ R.locals) (hf : cells ≤ R.cells ∧ slots ≤ R.slots)
    (kk : ∀ (H1 : Heap) (locs1 : List Loc), gW G σ' H1 → va_S A0 s.heap H1 locs1 → W p l e R s m args below meth c H1 locs1 cells slots Q (F0 m (pc + 3) ls (.int r :: rest))) : W p l e R s m args below meth c H locs cells slots Q (F0 m pc ls st) := by
  refine va_calli (va_runS (g := F0 m pc ls st) (rest := rest) ⟨hx, hb, hml, hown, ht⟩ hM (va_cwS n ht (g_goodS w1 w2 w4 w5) rfl rfl rfl hd hR) ⟨gPc_blind, fun U hU hWm => ⟨rfl, hE.go hS hA2 hWm hU, by rw [hU]; exact hP⟩⟩ rfl hn hsize hstack (lv_room hW) hdg hf) hS (fun q _ h => hA q h) hA (fun r1 u t H1 locs1 ht1 hvm hw hB hz hk1 hS1 => ?_)
  obtain ⟨rfl, rfl⟩ := hw
  exact kk H1 locs1 (by rw [← ht1]; exact hB.2) hS1
theorem g_callSv (hx : p.tables.exec = Jvm.exec) (hb : c.code = cc) (hml : c.maxLocals = nL) (hown : s.vm.findClass own = some m.cls) (ht : ∀ w ∈ gTb, w.before args s = true)
    (hM : gV l G y bytes maxL fr lo As σ σ') (w1 : Cond.methodLink own index y ∈ gTb) (w2 : Cond.static y ∈ gTb) (w4 : Cond.initialized y.cls ∈ gTb) (w5 : Cond.code y bytes maxL none ∈ gTb)
    (hd : y.cls ≠ "java/lang/invoke/MethodHandle" ∧ y.cls ≠ "java/lang/invoke/VarHandle" ∧ (parseMethodDescriptor y.desc).map (fun d => d.parameters.length) = some n)
    (hE : gEnv G s) (hP : gW G σ H) (hS : va_S A0 s.heap H locs) (hA : ∀ q, gA G q → A0 q) (hA2 : ∀ q, q < s.heap.size → ¬ gA G q → ¬ A0 q)
    (hn : As.length = n) (hsize : ls.size = nL) (hstack : st = As.reverse ++ rest) (hW : (rest.map fun v => v.category).sum ≤ 8) (hdg : decode cc pc = .ok (.invokestatic index, 3))
    (hR : fr + 1 ≤ R.frames ∧ 8 + (maxL + 11) + lo ≤ R.locals) (hf : cells ≤ R.cells ∧ slots ≤ R.slots)
    (kk : ∀ (H1 : Heap) (locs1 : List Loc), gW G σ' H1 → va_S A0 s.heap H1 locs1 → W p l e R s m args below meth c H1 locs1 cells slots Q (F0 m (pc + 3) ls rest)) : W p l e R s m args below meth c H locs cells slots Q (F0 m pc ls st) := by
  refine va_callv (va_runS (g := F0 m pc ls st) (rest := rest) ⟨hx, hb, hml, hown, ht⟩ hM (va_cwS n ht (g_goodS w1 w2 w4 w5) rfl rfl rfl hd hR) ⟨gPc_blind, fun U hU hWm => ⟨rfl, hE.go hS hA2 hWm hU, by rw [hU]; exact hP⟩⟩ rfl hn hsize hstack (lv_room hW) hdg hf) hS (fun q _ h => hA q h) hA (fun u t H1 locs1 ht1 hvm hw hB hz hk1 hS1 => ?_)
  subst hw
  exact kk H1 locs1 (by rw [← ht1]; exact hB.2) hS1
/-- a private static of a nest mate -/
theorem g_callSN (hx : p.tables.exec = Jvm.exec) (hb : c.code = cc) (hml : c.maxLocals = nL) (hown : s.vm.findClass own = some m.cls) (ht : ∀ w ∈ gTb, w.before args s = true)
    (hM : gC l G y bytes maxL ret fr lo As σ r σ') {host : String} (w1 : Cond.methodLinkNest own index y host ∈ gNest) (w2 : Cond.static y ∈ gTb) (w4 : Cond.initialized y.cls ∈ gTb) (w5 : Cond.code y bytes maxL ret ∈ gTb)
    (hd : y.cls ≠ "java/lang/invoke/MethodHandle" ∧ y.cls ≠ "java/lang/invoke/VarHandle" ∧ (parseMethodDescriptor y.desc).map (fun d => d.parameters.length) = some n)
    (hE : gEnv G s) (hP : gW G σ H) (hS : va_S A0 s.heap H locs) (hA : ∀ q, gA G q → A0 q) (hA2 : ∀ q, q < s.heap.size → ¬ gA G q → ¬ A0 q)
    (hn : As.length = n) (hsize : ls.size = nL) (hstack : st = As.reverse ++ rest) (hW : (rest.map fun v => v.category).sum ≤ 8) (hdg : decode cc pc = .ok (.invokestatic index, 3))
    (hR : fr + 1 ≤ R.frames ∧ 8 + (maxL + 11) + lo ≤ R.locals) (hf : cells ≤ R.cells ∧ slots ≤ R.slots)
    (kk : ∀ (H1 : Heap) (locs1 : List Loc), gW G σ' H1 → va_S A0 s.heap H1 locs1 → W p l e R s m args below meth c H1 locs1 cells slots Q (F0 m (pc + 3) ls (.int r :: rest))) : W p l e R s m args below meth c H locs cells slots Q (F0 m pc ls st) := by
  refine va_calli (va_runSN (g := F0 m pc ls st) (rest := rest) ⟨hx, hb, hml, hown, ht⟩ hM ⟨va_cnB n ht (g_good w5) rfl rfl rfl (hE.2.2.1 _ w1) (ht _ w4) hd hR, ht _ w2, trivial⟩ ⟨gPc_blind, fun U hU hWm => ⟨rfl, hE.go hS hA2 hWm hU, by rw [hU]; exact hP⟩⟩ rfl hn hsize hstack (lv_room hW) hdg hf) hS (fun q _ h => hA q h) hA (fun r1 u t H1 locs1 ht1 hvm hw hB hz hk1 hS1 => ?_)
  obtain ⟨rfl, rfl⟩ := hw
  exact kk H1 locs1 (by rw [← ht1]; exact hB.2) hS1
theorem g_callSNv (hx : p.tables.exec = Jvm.exec) (hb : c.code = cc) (hml : c.maxLocals = nL) (hown : s.vm.findClass own = some m.cls) (ht : ∀ w ∈ gTb, w.before args s = true)
    (hM : gV l G y bytes maxL fr lo As σ σ') {host : String} (w1 : Cond.methodLinkNest own index y host ∈ gNest) (w2 : Cond.static y ∈ gTb) (w4 : Cond.initialized y.cls ∈ gTb) (w5 : Cond.code y bytes maxL none ∈ gTb)
    (hd : y.cls ≠ "java/lang/invoke/MethodHandle" ∧ y.cls ≠ "java/lang/invoke/VarHandle" ∧ (parseMethodDescriptor y.desc).map (fun d => d.parameters.length) = some n)
    (hE : gEnv G s) (hP : gW G σ H) (hS : va_S A0 s.heap H locs) (hA : ∀ q, gA G q → A0 q) (hA2 : ∀ q, q < s.heap.size → ¬ gA G q → ¬ A0 q)
    (hn : As.length = n) (hsize : ls.size = nL) (hstack : st = As.reverse ++ rest) (hW : (rest.map fun v => v.category).sum ≤ 8) (hdg : decode cc pc = .ok (.invokestatic index, 3))
    (hR : fr + 1 ≤ R.frames ∧ 8 + (maxL + 11) + lo ≤ R.locals) (hf : cells ≤ R.cells ∧ slots ≤ R.slots)
    (kk : ∀ (H1 : Heap) (locs1 : List Loc), gW G σ' H1 → va_S A0 s.heap H1 locs1 → W p l e R s m args below meth c H1 locs1 cells slots Q (F0 m (pc + 3) ls rest)) : W p l e R s m args below meth c H locs cells slots Q (F0 m pc ls st) := by
  refine va_callv (va_runSN (g := F0 m pc ls st) (rest := rest) ⟨hx, hb, hml, hown, ht⟩ hM ⟨va_cnB n ht (g_good w5) rfl rfl rfl (hE.2.2.1 _ w1) (ht _ w4) hd hR, ht _ w2, trivial⟩ ⟨gPc_blind, fun U hU hWm => ⟨rfl, hE.go hS hA2 hWm hU, by rw [hU]; exact hP⟩⟩ rfl hn hsize hstack (lv_room hW) hdg hf) hS (fun q _ h => hA q h) hA (fun u t H1 locs1 ht1 hvm hw hB hz hk1 hS1 => ?_)
  subst hw
  exact kk H1 locs1 (by rw [← ht1]; exact hB.2) hS1
/-- System.arraycopy between int arrays of the world -/
theorem g_copy (hx : p.tables.exec = Jvm.exec) (hb : c.code = cc) (hml : c.maxLocals = ls.size) (hown : s.vm.findClass own = some m.cls) (ht : ∀ w ∈ gTb, w.before args s = true) (w1 : Cond.methodLink own index arraycopyName ∈ gTb) (w2 : Cond.native arraycopyName ∈ gTb) (w3 : Cond.static arraycopyName ∈ gTb) (w4 : Cond.initialized "java/lang/System" ∈ gTb)
    (hE : gEnv G s) (hP : gW G σ H) (hS : va_S (gA G) s.heap H locs) {k1 k2 n1 n2 : Nat} (hk1 : k1 < gN) (hL1 : gLen k1 = n1) (hz1 : n1 ≠ 0) (hk2 : k2 < gN) (hL2 : gLen k2 = n2) (hz2 : n2 ≠ 0) {sp dp n : Int32}
    (hg : ¬ sp < 0 ∧ ¬ dp < 0 ∧ ¬ n < 0 ∧ sp.toNatClampNeg + n.toNatClampNeg ≤ n1 ∧ dp.toNatClampNeg + n.toNatClampNeg ≤ n2) (hfr : 1 ≤ R.frames) (hlo : (rest.map fun v => v.category).sum + (nativeFrameWords "java/lang/System" "arraycopy" 5 + 11) ≤ R.locals) (hdg : decode cc pc = .ok (.invokestatic index, 3))
    (kk : ∀ (H1 : Heap) (locs1 : List Loc) (σ1 : gSt), σ1 = gRow σ k2 (va_cpy (σ k1) (σ k2) sp.toNatClampNeg dp.toNatClampNeg n.toNatClampNeg) → gW G σ1 H1 → va_S (gA G) s.heap H1 locs1 → W p l e R s m args below meth c H1 locs1 cells slots Q (F0 m (pc + 3) ls rest)) : W p l e R s m args below meth c H locs cells slots Q (F0 m pc ls (.int n :: .int dp :: .ref (G.2.2.1 k2) :: .int sp :: .ref (G.2.2.1 k1) :: rest)) := by
  subst hL1
  subst hL2
  refine va_copyi hx hb hml hown (ht _ w1) (ht _ w2) (ht _ w3) (ht _ w4) hE.2.1 hP hE.1.D hS k1 k2 0 0 (by rw [gWl_get hk1, gE_arr hz1]) (by rw [gWl_get hk2, gE_arr hz2]) rfl rfl rfl hg.1 hg.2.1 hg.2.2.1 hg.2.2.2.1 hg.2.2.2.2 (fun _ _ => rfl) hfr hlo hdg (fun H1 locs1 hP1 hD1 hS1 => ?_)
  rw [← gE_arr hz2, gWl_set hk2] at hP1
  exact kk H1 locs1 _ rfl hP1 hS1
theorem g_max (hx : p.tables.exec = Jvm.exec) (hb : c.code = cc) (hml : c.maxLocals = ls.size) (hown : s.vm.findClass own = some m.cls) (ht : ∀ w ∈ gTb, w.before args s = true) (w1 : Cond.methodLink own index Lib.Math.max.name ∈ gTb) (w2 : Cond.static Lib.Math.max.name ∈ gTb) (w3 : Cond.initialized "java/lang/Math" ∈ gTb) (w4 : Cond.code Lib.Math.max.name Lib.Math.max.code 2 (some .int) ∈ gTb)
    (hfr : 1 ≤ R.frames) (hlo : (rest.map fun v => v.category).sum + 13 ≤ R.locals) (hf : cells ≤ R.cells ∧ slots ≤ R.slots) {x z : Int32} (hdg : decode cc pc = .ok (.invokestatic index, 3))
    (kk : W p l e R s m args below meth c H locs cells slots Q (F0 m (pc + 3) ls (.int (if x < z then z else x) :: rest))) : W p l e R s m args below meth c H locs cells slots Q (F0 m pc ls (.int z :: .int x :: rest)) :=
  va_mmax hx hb hml hown (ht _ w1) (ht _ w2) (ht _ w3) (ht _ w4) hfr hlo hf.1 hf.2 hdg kk
theorem g_min (hx : p.tables.exec = Jvm.exec) (hb : c.code = cc) (hml : c.maxLocals = ls.size) (hown : s.vm.findClass own = some m.cls) (ht : ∀ w ∈ gTb, w.before args s = true) (w1 : Cond.methodLink own index Lib.Math.min.name ∈ gTb) (w2 : Cond.static Lib.Math.min.name ∈ gTb) (w3 : Cond.initialized "java/lang/Math" ∈ gTb) (w4 : Cond.code Lib.Math.min.name Lib.Math.min.code 2 (some .int) ∈ gTb)
    (hfr : 1 ≤ R.frames) (hlo : (rest.map fun v => v.category).sum + 13 ≤ R.locals) (hf : cells ≤ R.cells ∧ slots ≤ R.slots) {x z : Int32} (hdg : decode cc pc = .ok (.invokestatic index, 3))
    (kk : W p l e R s m args below meth c H locs cells slots Q (F0 m (pc + 3) ls (.int (if z < x then z else x) :: rest))) : W p l e R s m args below meth c H locs cells slots Q (F0 m pc ls (.int z :: .int x :: rest)) :=
  va_mmin hx hb hml hown (ht _ w1) (ht _ w2) (ht _ w3) (ht _ w4) hfr hlo hf.1 hf.2 hdg kk
/-- a switch, by the number -/
theorem g_ne {x k : Int32} (h : ¬ x = k) : x.toInt ≠ k.toInt := fun e => h (Int32.toInt_inj.mp e)
end GC
end
section
/-! ===== words of the tables that the rows use, by their places ===== -/
theorem m_0 : Cond.selects "PoorDesk" yX9_finding yX9_finding ∈ gTb := gTb_of 0 (by decide +kernel) (by decide +kernel)
theorem m_1 : Cond.selects "PoorDesk" yX9_canReckon yX9_canReckon ∈ gTb := gTb_of 1 (by decide +kernel) (by decide +kernel)
theorem m_2 : Cond.selects "PoorDesk$Reckoner" yX7_prepare yX7_prepare ∈ gTb := gTb_of 2 (by decide +kernel) (by decide +kernel)
theorem m_3 : Cond.selects "PoorDesk$Reckoner" yX7_gainByFact yX7_gainByFact ∈ gTb := gTb_of 3 (by decide +kernel) (by decide +kernel)
theorem m_4 : Cond.selects "PoorDesk$Reckoner" yX7_gainByBirth yX7_gainByBirth ∈ gTb := gTb_of 4 (by decide +kernel) (by decide +kernel)
theorem m_5 : Cond.selects "PoorDesk$Reckoner" yX7_leaderOf yX7_leaderOf ∈ gTb := gTb_of 5 (by decide +kernel) (by decide +kernel)
theorem m_6 : Cond.selects "PoorDesk$Reckoner" yX7_ownParish yX7_ownParish ∈ gTb := gTb_of 6 (by decide +kernel) (by decide +kernel)
theorem m_7 : Cond.selects "PoorDesk" yX9_parishOrNone yX9_parishOrNone ∈ gTb := gTb_of 7 (by decide +kernel) (by decide +kernel)
theorem m_8 : Cond.selects "PoorDesk$Reckoner" yX7_settledParish yX7_settledParish ∈ gTb := gTb_of 8 (by decide +kernel) (by decide +kernel)
theorem m_9 : Cond.selects "PoorDesk$Reckoner" yX7_teller yX7_teller ∈ gTb := gTb_of 9 (by decide +kernel) (by decide +kernel)
theorem m_10 : Cond.selects "PoorDesk$Reckoner" yX7_tryAllWays yX7_tryAllWays ∈ gTb := gTb_of 10 (by decide +kernel) (by decide +kernel)
theorem m_11 : Cond.selects "PoorDesk$Reckoner" yX7_findDoubted yX7_findDoubted ∈ gTb := gTb_of 11 (by decide +kernel) (by decide +kernel)
theorem m_12 : Cond.selects "PoorDesk$Reckoner" yX7_deniedIn yX7_deniedIn ∈ gTb := gTb_of 12 (by decide +kernel) (by decide +kernel)
theorem m_13 : Cond.selects "PoorDeskModel" yX10_finding yX10_finding ∈ gTb := gTb_of 13 (by decide +kernel) (by decide +kernel)
theorem m_14 : Cond.selects "PoorDeskModel" yX10_isParish yX10_isParish ∈ gTb := gTb_of 14 (by decide +kernel) (by decide +kernel)
theorem m_15 : Cond.selects "PoorDeskModel" yX10_isPerson yX10_isPerson ∈ gTb := gTb_of 15 (by decide +kernel) (by decide +kernel)
theorem m_16 : Cond.selects "PoorDeskModel" yX10_link yX10_link ∈ gTb := gTb_of 16 (by decide +kernel) (by decide +kernel)
theorem m_17 : Cond.selects "PoorDeskModel" yX10_doubts yX10_doubts ∈ gTb := gTb_of 17 (by decide +kernel) (by decide +kernel)
theorem m_18 : Cond.selects "PoorDeskModel" yX10_canAsk yX10_canAsk ∈ gTb := gTb_of 18 (by decide +kernel) (by decide +kernel)
theorem m_19 : Cond.selects "PoorDeskModel" yX10_ownOf yX10_ownOf ∈ gTb := gTb_of 19 (by decide +kernel) (by decide +kernel)
theorem m_20 : Cond.selects "PoorDeskModel" yX10_hasLaw yX10_hasLaw ∈ gTb := gTb_of 20 (by decide +kernel) (by decide +kernel)
theorem m_21 : Cond.selects "PoorDeskModel" yX10_isForce yX10_isForce ∈ gTb := gTb_of 21 (by decide +kernel) (by decide +kernel)
theorem m_22 : Cond.selects "PoorDeskModel" yX10_settlementOf yX10_settlementOf ∈ gTb := gTb_of 22 (by decide +kernel) (by decide +kernel)
theorem m_23 : Cond.selects "PoorDeskModel" yX10_goesBy yX10_goesBy ∈ gTb := gTb_of 23 (by decide +kernel) (by decide +kernel)
theorem m_24 : Cond.selects "PoorDeskModel" yX10_findOutcomes yX10_findOutcomes ∈ gTb := gTb_of 24 (by decide +kernel) (by decide +kernel)
theorem m_25 : Cond.selects "PoorDeskModel" yX10_isOrder yX10_isOrder ∈ gTb := gTb_of 25 (by decide +kernel) (by decide +kernel)
theorem m_26 : Cond.selects "PoorDeskModel" yX10_listOf yX10_listOf ∈ gTb := gTb_of 26 (by decide +kernel) (by decide +kernel)
theorem m_27 : Cond.selects "PoorDeskModel" yX10_reliefOf yX10_reliefOf ∈ gTb := gTb_of 27 (by decide +kernel) (by decide +kernel)
theorem m_28 : Cond.selects "PoorDeskModel" yX10_isWifeOf yX10_isWifeOf ∈ gTb := gTb_of 28 (by decide +kernel) (by decide +kernel)
theorem m_30 : Cond.initialized "PoorDesk" ∈ gTb := gTb_of 30 (by decide +kernel) (by decide +kernel)
theorem m_31 : Cond.initialized "PoorDesk$Book" ∈ gTb := gTb_of 31 (by decide +kernel) (by decide +kernel)
theorem m_32 : Cond.initialized "PoorDesk$Parishes" ∈ gTb := gTb_of 32 (by decide +kernel) (by decide +kernel)
theorem m_33 : Cond.initialized "PoorDesk$Persons" ∈ gTb := gTb_of 33 (by decide +kernel) (by decide +kernel)
theorem m_34 : Cond.initialized "PoorDesk$Facts" ∈ gTb := gTb_of 34 (by decide +kernel) (by decide +kernel)
theorem m_35 : Cond.initialized "PoorDesk$Laws" ∈ gTb := gTb_of 35 (by decide +kernel) (by decide +kernel)
theorem m_36 : Cond.initialized "PoorDesk$Orders" ∈ gTb := gTb_of 36 (by decide +kernel) (by decide +kernel)
theorem m_37 : Cond.initialized "PoorDesk$Poor" ∈ gTb := gTb_of 37 (by decide +kernel) (by decide +kernel)
theorem m_38 : Cond.initialized "PoorDesk$Reckoner" ∈ gTb := gTb_of 38 (by decide +kernel) (by decide +kernel)
theorem m_39 : Cond.initialized "PoorDesk$Sheet" ∈ gTb := gTb_of 39 (by decide +kernel) (by decide +kernel)
theorem m_40 : Cond.initialized "PoorDeskModel" ∈ gTb := gTb_of 40 (by decide +kernel) (by decide +kernel)
theorem m_41 : Cond.initialized "java/util/Arrays" ∈ gTb := gTb_of 41 (by decide +kernel) (by decide +kernel)
theorem m_42 : Cond.initialized "java/lang/Integer" ∈ gTb := gTb_of 42 (by decide +kernel) (by decide +kernel)
theorem m_43 : Cond.initialized "java/lang/Math" ∈ gTb := gTb_of 43 (by decide +kernel) (by decide +kernel)
theorem m_44 : Cond.initialized "java/lang/System" ∈ gTb := gTb_of 44 (by decide +kernel) (by decide +kernel)
theorem m_67 : Cond.fieldLink "PoorDesk$Parishes" 20 "PoorDesk$Parishes" "count" "I" ∈ gTb := gTb_of 67 (by decide +kernel) (by decide +kernel)
theorem m_68 : Cond.fieldLink "PoorDesk" 56 "PoorDesk$Parishes" "count" "I" ∈ gTb := gTb_of 68 (by decide +kernel) (by decide +kernel)
theorem m_69 : Cond.fieldLink "PoorDesk$Parishes" 9 "PoorDesk$Parishes" "worth" "[I" ∈ gTb := gTb_of 69 (by decide +kernel) (by decide +kernel)
theorem m_70 : Cond.fieldLink "PoorDesk$Parishes" 17 "PoorDesk$Parishes" "miles" "[[I" ∈ gTb := gTb_of 70 (by decide +kernel) (by decide +kernel)
theorem m_71 : Cond.fieldLink "PoorDesk" 70 "PoorDesk$Parishes" "miles" "[[I" ∈ gTb := gTb_of 71 (by decide +kernel) (by decide +kernel)
theorem m_86 : Cond.fieldLink "PoorDesk$Persons" 27 "PoorDesk$Persons" "count" "I" ∈ gTb := gTb_of 86 (by decide +kernel) (by decide +kernel)
theorem m_87 : Cond.fieldLink "PoorDesk$Poor" 36 "PoorDesk$Persons" "count" "I" ∈ gTb := gTb_of 87 (by decide +kernel) (by decide +kernel)
theorem m_88 : Cond.fieldLink "PoorDesk" 81 "PoorDesk$Persons" "count" "I" ∈ gTb := gTb_of 88 (by decide +kernel) (by decide +kernel)
theorem m_89 : Cond.fieldLink "PoorDesk$Persons" 9 "PoorDesk$Persons" "kind" "[I" ∈ gTb := gTb_of 89 (by decide +kernel) (by decide +kernel)
theorem m_90 : Cond.fieldLink "PoorDesk" 103 "PoorDesk$Persons" "kind" "[I" ∈ gTb := gTb_of 90 (by decide +kernel) (by decide +kernel)
theorem m_91 : Cond.fieldLink "PoorDesk$Reckoner" 136 "PoorDesk$Persons" "kind" "[I" ∈ gTb := gTb_of 91 (by decide +kernel) (by decide +kernel)
theorem m_92 : Cond.fieldLink "PoorDesk$Persons" 15 "PoorDesk$Persons" "birthplace" "[I" ∈ gTb := gTb_of 92 (by decide +kernel) (by decide +kernel)
theorem m_93 : Cond.fieldLink "PoorDesk$Reckoner" 143 "PoorDesk$Persons" "birthplace" "[I" ∈ gTb := gTb_of 93 (by decide +kernel) (by decide +kernel)
theorem m_94 : Cond.fieldLink "PoorDesk$Persons" 18 "PoorDesk$Persons" "born" "[I" ∈ gTb := gTb_of 94 (by decide +kernel) (by decide +kernel)
theorem m_95 : Cond.fieldLink "PoorDesk$Reckoner" 126 "PoorDesk$Persons" "born" "[I" ∈ gTb := gTb_of 95 (by decide +kernel) (by decide +kernel)
theorem m_96 : Cond.fieldLink "PoorDesk$Persons" 21 "PoorDesk$Persons" "leader" "[I" ∈ gTb := gTb_of 96 (by decide +kernel) (by decide +kernel)
theorem m_97 : Cond.fieldLink "PoorDesk$Poor" 50 "PoorDesk$Persons" "leader" "[I" ∈ gTb := gTb_of 97 (by decide +kernel) (by decide +kernel)
theorem m_98 : Cond.fieldLink "PoorDesk$Reckoner" 140 "PoorDesk$Persons" "leader" "[I" ∈ gTb := gTb_of 98 (by decide +kernel) (by decide +kernel)
theorem m_99 : Cond.fieldLink "PoorDesk$Persons" 24 "PoorDesk$Persons" "married" "[I" ∈ gTb := gTb_of 99 (by decide +kernel) (by decide +kernel)
theorem m_100 : Cond.fieldLink "PoorDesk$Reckoner" 133 "PoorDesk$Persons" "married" "[I" ∈ gTb := gTb_of 100 (by decide +kernel) (by decide +kernel)
theorem m_120 : Cond.fieldLink "PoorDesk$Facts" 36 "PoorDesk$Facts" "count" "I" ∈ gTb := gTb_of 120 (by decide +kernel) (by decide +kernel)
theorem m_121 : Cond.fieldLink "PoorDesk$Reckoner" 74 "PoorDesk$Facts" "count" "I" ∈ gTb := gTb_of 121 (by decide +kernel) (by decide +kernel)
theorem m_122 : Cond.fieldLink "PoorDesk" 118 "PoorDesk$Facts" "count" "I" ∈ gTb := gTb_of 122 (by decide +kernel) (by decide +kernel)
theorem m_123 : Cond.fieldLink "PoorDesk$Facts" 9 "PoorDesk$Facts" "kind" "[I" ∈ gTb := gTb_of 123 (by decide +kernel) (by decide +kernel)
theorem m_124 : Cond.fieldLink "PoorDesk$Reckoner" 110 "PoorDesk$Facts" "kind" "[I" ∈ gTb := gTb_of 124 (by decide +kernel) (by decide +kernel)
theorem m_125 : Cond.fieldLink "PoorDesk$Facts" 15 "PoorDesk$Facts" "person" "[I" ∈ gTb := gTb_of 125 (by decide +kernel) (by decide +kernel)
theorem m_126 : Cond.fieldLink "PoorDesk$Reckoner" 146 "PoorDesk$Facts" "person" "[I" ∈ gTb := gTb_of 126 (by decide +kernel) (by decide +kernel)
theorem m_127 : Cond.fieldLink "PoorDesk$Facts" 18 "PoorDesk$Facts" "parish" "[I" ∈ gTb := gTb_of 127 (by decide +kernel) (by decide +kernel)
theorem m_128 : Cond.fieldLink "PoorDesk$Reckoner" 149 "PoorDesk$Facts" "parish" "[I" ∈ gTb := gTb_of 128 (by decide +kernel) (by decide +kernel)
theorem m_129 : Cond.fieldLink "PoorDesk$Facts" 21 "PoorDesk$Facts" "pounds" "[I" ∈ gTb := gTb_of 129 (by decide +kernel) (by decide +kernel)
theorem m_130 : Cond.fieldLink "PoorDesk$Reckoner" 123 "PoorDesk$Facts" "pounds" "[I" ∈ gTb := gTb_of 130 (by decide +kernel) (by decide +kernel)
theorem m_131 : Cond.fieldLink "PoorDesk$Facts" 24 "PoorDesk$Facts" "from" "[I" ∈ gTb := gTb_of 131 (by decide +kernel) (by decide +kernel)
theorem m_132 : Cond.fieldLink "PoorDesk$Reckoner" 104 "PoorDesk$Facts" "from" "[I" ∈ gTb := gTb_of 132 (by decide +kernel) (by decide +kernel)
theorem m_133 : Cond.fieldLink "PoorDesk$Facts" 27 "PoorDesk$Facts" "to" "[I" ∈ gTb := gTb_of 133 (by decide +kernel) (by decide +kernel)
theorem m_134 : Cond.fieldLink "PoorDesk$Reckoner" 107 "PoorDesk$Facts" "to" "[I" ∈ gTb := gTb_of 134 (by decide +kernel) (by decide +kernel)
theorem m_135 : Cond.fieldLink "PoorDesk$Facts" 30 "PoorDesk$Facts" "known" "[I" ∈ gTb := gTb_of 135 (by decide +kernel) (by decide +kernel)
theorem m_136 : Cond.fieldLink "PoorDesk$Reckoner" 79 "PoorDesk$Facts" "known" "[I" ∈ gTb := gTb_of 136 (by decide +kernel) (by decide +kernel)
theorem m_137 : Cond.fieldLink "PoorDesk$Facts" 33 "PoorDesk$Facts" "doubted" "[I" ∈ gTb := gTb_of 137 (by decide +kernel) (by decide +kernel)
theorem m_138 : Cond.fieldLink "PoorDesk" 132 "PoorDesk$Facts" "doubted" "[I" ∈ gTb := gTb_of 138 (by decide +kernel) (by decide +kernel)
theorem m_164 : Cond.fieldLink "PoorDesk$Laws" 24 "PoorDesk$Laws" "count" "I" ∈ gTb := gTb_of 164 (by decide +kernel) (by decide +kernel)
theorem m_165 : Cond.fieldLink "PoorDesk" 143 "PoorDesk$Laws" "count" "I" ∈ gTb := gTb_of 165 (by decide +kernel) (by decide +kernel)
theorem m_166 : Cond.fieldLink "PoorDesk$Laws" 9 "PoorDesk$Laws" "kind" "[I" ∈ gTb := gTb_of 166 (by decide +kernel) (by decide +kernel)
theorem m_167 : Cond.fieldLink "PoorDesk$Laws" 15 "PoorDesk$Laws" "number" "[I" ∈ gTb := gTb_of 167 (by decide +kernel) (by decide +kernel)
theorem m_168 : Cond.fieldLink "PoorDesk$Laws" 18 "PoorDesk$Laws" "from" "[I" ∈ gTb := gTb_of 168 (by decide +kernel) (by decide +kernel)
theorem m_169 : Cond.fieldLink "PoorDesk" 150 "PoorDesk$Laws" "from" "[I" ∈ gTb := gTb_of 169 (by decide +kernel) (by decide +kernel)
theorem m_170 : Cond.fieldLink "PoorDesk$Laws" 21 "PoorDesk$Laws" "to" "[I" ∈ gTb := gTb_of 170 (by decide +kernel) (by decide +kernel)
theorem m_171 : Cond.fieldLink "PoorDesk" 153 "PoorDesk$Laws" "to" "[I" ∈ gTb := gTb_of 171 (by decide +kernel) (by decide +kernel)
theorem m_189 : Cond.fieldLink "PoorDesk$Orders" 30 "PoorDesk$Orders" "count" "I" ∈ gTb := gTb_of 189 (by decide +kernel) (by decide +kernel)
theorem m_190 : Cond.fieldLink "PoorDesk" 181 "PoorDesk$Orders" "count" "I" ∈ gTb := gTb_of 190 (by decide +kernel) (by decide +kernel)
theorem m_191 : Cond.fieldLink "PoorDesk$Orders" 9 "PoorDesk$Orders" "person" "[I" ∈ gTb := gTb_of 191 (by decide +kernel) (by decide +kernel)
theorem m_192 : Cond.fieldLink "PoorDesk" 198 "PoorDesk$Orders" "person" "[I" ∈ gTb := gTb_of 192 (by decide +kernel) (by decide +kernel)
theorem m_193 : Cond.fieldLink "PoorDesk$Orders" 15 "PoorDesk$Orders" "from" "[I" ∈ gTb := gTb_of 193 (by decide +kernel) (by decide +kernel)
theorem m_194 : Cond.fieldLink "PoorDesk" 202 "PoorDesk$Orders" "from" "[I" ∈ gTb := gTb_of 194 (by decide +kernel) (by decide +kernel)
theorem m_195 : Cond.fieldLink "PoorDesk$Orders" 18 "PoorDesk$Orders" "to" "[I" ∈ gTb := gTb_of 195 (by decide +kernel) (by decide +kernel)
theorem m_196 : Cond.fieldLink "PoorDesk" 201 "PoorDesk$Orders" "to" "[I" ∈ gTb := gTb_of 196 (by decide +kernel) (by decide +kernel)
theorem m_197 : Cond.fieldLink "PoorDesk$Orders" 21 "PoorDesk$Orders" "day" "[I" ∈ gTb := gTb_of 197 (by decide +kernel) (by decide +kernel)
theorem m_198 : Cond.fieldLink "PoorDesk" 191 "PoorDesk$Orders" "day" "[I" ∈ gTb := gTb_of 198 (by decide +kernel) (by decide +kernel)
theorem m_199 : Cond.fieldLink "PoorDesk$Orders" 24 "PoorDesk$Orders" "costs" "[I" ∈ gTb := gTb_of 199 (by decide +kernel) (by decide +kernel)
theorem m_200 : Cond.fieldLink "PoorDesk" 203 "PoorDesk$Orders" "costs" "[I" ∈ gTb := gTb_of 200 (by decide +kernel) (by decide +kernel)
theorem m_201 : Cond.fieldLink "PoorDesk$Orders" 27 "PoorDesk$Orders" "state" "[I" ∈ gTb := gTb_of 201 (by decide +kernel) (by decide +kernel)
theorem m_202 : Cond.fieldLink "PoorDesk" 188 "PoorDesk$Orders" "state" "[I" ∈ gTb := gTb_of 202 (by decide +kernel) (by decide +kernel)
theorem m_224 : Cond.fieldLink "PoorDesk$Poor" 9 "PoorDesk$Poor" "scale" "I" ∈ gTb := gTb_of 224 (by decide +kernel) (by decide +kernel)
theorem m_225 : Cond.fieldLink "PoorDesk" 209 "PoorDesk$Poor" "scale" "I" ∈ gTb := gTb_of 225 (by decide +kernel) (by decide +kernel)
theorem m_226 : Cond.fieldLink "PoorDesk$Poor" 15 "PoorDesk$Poor" "list" "[I" ∈ gTb := gTb_of 226 (by decide +kernel) (by decide +kernel)
theorem m_227 : Cond.fieldLink "PoorDesk" 215 "PoorDesk$Poor" "list" "[I" ∈ gTb := gTb_of 227 (by decide +kernel) (by decide +kernel)
theorem m_228 : Cond.fieldLink "PoorDesk$Poor" 19 "PoorDesk$Poor" "since" "[I" ∈ gTb := gTb_of 228 (by decide +kernel) (by decide +kernel)
theorem m_229 : Cond.fieldLink "PoorDesk" 218 "PoorDesk$Poor" "since" "[I" ∈ gTb := gTb_of 229 (by decide +kernel) (by decide +kernel)
theorem m_230 : Cond.fieldLink "PoorDesk$Poor" 22 "PoorDesk$Poor" "earned" "[I" ∈ gTb := gTb_of 230 (by decide +kernel) (by decide +kernel)
theorem m_231 : Cond.fieldLink "PoorDesk" 221 "PoorDesk$Poor" "earned" "[I" ∈ gTb := gTb_of 231 (by decide +kernel) (by decide +kernel)
theorem m_232 : Cond.fieldLink "PoorDesk$Poor" 25 "PoorDesk$Poor" "prices" "[I" ∈ gTb := gTb_of 232 (by decide +kernel) (by decide +kernel)
theorem m_233 : Cond.fieldLink "PoorDesk" 224 "PoorDesk$Poor" "prices" "[I" ∈ gTb := gTb_of 233 (by decide +kernel) (by decide +kernel)
theorem m_245 : Cond.fieldLink "PoorDesk$Book" 10 "PoorDesk$Book" "parishes" "LPoorDesk$Parishes;" ∈ gTb := gTb_of 245 (by decide +kernel) (by decide +kernel)
theorem m_246 : Cond.fieldLink "PoorDesk" 52 "PoorDesk$Book" "parishes" "LPoorDesk$Parishes;" ∈ gTb := gTb_of 246 (by decide +kernel) (by decide +kernel)
theorem m_247 : Cond.fieldLink "PoorDesk$Book" 19 "PoorDesk$Book" "persons" "LPoorDesk$Persons;" ∈ gTb := gTb_of 247 (by decide +kernel) (by decide +kernel)
theorem m_248 : Cond.fieldLink "PoorDesk" 77 "PoorDesk$Book" "persons" "LPoorDesk$Persons;" ∈ gTb := gTb_of 248 (by decide +kernel) (by decide +kernel)
theorem m_249 : Cond.fieldLink "PoorDesk$Reckoner" 88 "PoorDesk$Book" "persons" "LPoorDesk$Persons;" ∈ gTb := gTb_of 249 (by decide +kernel) (by decide +kernel)
theorem m_250 : Cond.fieldLink "PoorDesk$Book" 26 "PoorDesk$Book" "facts" "LPoorDesk$Facts;" ∈ gTb := gTb_of 250 (by decide +kernel) (by decide +kernel)
theorem m_251 : Cond.fieldLink "PoorDesk$Reckoner" 68 "PoorDesk$Book" "facts" "LPoorDesk$Facts;" ∈ gTb := gTb_of 251 (by decide +kernel) (by decide +kernel)
theorem m_252 : Cond.fieldLink "PoorDesk" 114 "PoorDesk$Book" "facts" "LPoorDesk$Facts;" ∈ gTb := gTb_of 252 (by decide +kernel) (by decide +kernel)
theorem m_253 : Cond.fieldLink "PoorDesk$Book" 33 "PoorDesk$Book" "laws" "LPoorDesk$Laws;" ∈ gTb := gTb_of 253 (by decide +kernel) (by decide +kernel)
theorem m_254 : Cond.fieldLink "PoorDesk$Reckoner" 113 "PoorDesk$Book" "laws" "LPoorDesk$Laws;" ∈ gTb := gTb_of 254 (by decide +kernel) (by decide +kernel)
theorem m_255 : Cond.fieldLink "PoorDesk" 139 "PoorDesk$Book" "laws" "LPoorDesk$Laws;" ∈ gTb := gTb_of 255 (by decide +kernel) (by decide +kernel)
theorem m_256 : Cond.fieldLink "PoorDesk$Book" 40 "PoorDesk$Book" "orders" "LPoorDesk$Orders;" ∈ gTb := gTb_of 256 (by decide +kernel) (by decide +kernel)
theorem m_257 : Cond.fieldLink "PoorDesk" 177 "PoorDesk$Book" "orders" "LPoorDesk$Orders;" ∈ gTb := gTb_of 257 (by decide +kernel) (by decide +kernel)
theorem m_258 : Cond.fieldLink "PoorDesk$Book" 47 "PoorDesk$Book" "poor" "LPoorDesk$Poor;" ∈ gTb := gTb_of 258 (by decide +kernel) (by decide +kernel)
theorem m_259 : Cond.fieldLink "PoorDesk" 87 "PoorDesk$Book" "poor" "LPoorDesk$Poor;" ∈ gTb := gTb_of 259 (by decide +kernel) (by decide +kernel)
theorem m_260 : Cond.fieldLink "PoorDesk$Book" 51 "PoorDesk$Book" "term" "I" ∈ gTb := gTb_of 260 (by decide +kernel) (by decide +kernel)
theorem m_261 : Cond.fieldLink "PoorDesk" 194 "PoorDesk$Book" "term" "I" ∈ gTb := gTb_of 261 (by decide +kernel) (by decide +kernel)
theorem m_283 : Cond.fieldLink "PoorDesk$Reckoner" 30 "PoorDesk$Reckoner" "book" "LPoorDesk$Book;" ∈ gTb := gTb_of 283 (by decide +kernel) (by decide +kernel)
theorem m_284 : Cond.fieldLink "PoorDesk$Reckoner" 9 "PoorDesk$Reckoner" "gainDay" "[I" ∈ gTb := gTb_of 284 (by decide +kernel) (by decide +kernel)
theorem m_285 : Cond.fieldLink "PoorDesk$Reckoner" 15 "PoorDesk$Reckoner" "line" "[I" ∈ gTb := gTb_of 285 (by decide +kernel) (by decide +kernel)
theorem m_286 : Cond.fieldLink "PoorDesk$Reckoner" 18 "PoorDesk$Reckoner" "birthDay" "[I" ∈ gTb := gTb_of 286 (by decide +kernel) (by decide +kernel)
theorem m_287 : Cond.fieldLink "PoorDesk$Reckoner" 21 "PoorDesk$Reckoner" "doubted" "[I" ∈ gTb := gTb_of 287 (by decide +kernel) (by decide +kernel)
theorem m_288 : Cond.fieldLink "PoorDesk$Reckoner" 24 "PoorDesk$Reckoner" "setIfSo" "[I" ∈ gTb := gTb_of 288 (by decide +kernel) (by decide +kernel)
theorem m_289 : Cond.fieldLink "PoorDesk$Reckoner" 27 "PoorDesk$Reckoner" "setIfNot" "[I" ∈ gTb := gTb_of 289 (by decide +kernel) (by decide +kernel)
theorem m_290 : Cond.fieldLink "PoorDesk$Reckoner" 85 "PoorDesk$Reckoner" "lineLength" "I" ∈ gTb := gTb_of 290 (by decide +kernel) (by decide +kernel)
theorem m_291 : Cond.fieldLink "PoorDesk$Reckoner" 54 "PoorDesk$Reckoner" "doubts" "I" ∈ gTb := gTb_of 291 (by decide +kernel) (by decide +kernel)
theorem m_318 : Cond.fieldLink "PoorDesk$Sheet" 15 "PoorDesk$Sheet" "bits" "I" ∈ gTb := gTb_of 318 (by decide +kernel) (by decide +kernel)
theorem m_319 : Cond.fieldLink "PoorDesk" 262 "PoorDesk$Sheet" "bits" "I" ∈ gTb := gTb_of 319 (by decide +kernel) (by decide +kernel)
theorem m_320 : Cond.fieldLink "PoorDesk$Sheet" 19 "PoorDesk$Sheet" "length" "I" ∈ gTb := gTb_of 320 (by decide +kernel) (by decide +kernel)
theorem m_321 : Cond.fieldLink "PoorDesk$Poor" 61 "PoorDesk$Sheet" "length" "I" ∈ gTb := gTb_of 321 (by decide +kernel) (by decide +kernel)
theorem m_322 : Cond.fieldLink "PoorDesk" 252 "PoorDesk$Sheet" "length" "I" ∈ gTb := gTb_of 322 (by decide +kernel) (by decide +kernel)
theorem m_323 : Cond.fieldLink "PoorDesk$Sheet" 9 "PoorDesk$Sheet" "numbers" "[I" ∈ gTb := gTb_of 323 (by decide +kernel) (by decide +kernel)
theorem m_324 : Cond.fieldLink "PoorDesk$Poor" 69 "PoorDesk$Sheet" "numbers" "[I" ∈ gTb := gTb_of 324 (by decide +kernel) (by decide +kernel)
theorem m_325 : Cond.fieldLink "PoorDesk" 268 "PoorDesk$Sheet" "numbers" "[I" ∈ gTb := gTb_of 325 (by decide +kernel) (by decide +kernel)
theorem m_333 : Cond.fieldLink "PoorDesk" 10 "PoorDesk" "book" "LPoorDesk$Book;" ∈ gTb := gTb_of 333 (by decide +kernel) (by decide +kernel)
theorem m_334 : Cond.fieldLink "PoorDesk" 16 "PoorDesk" "kept" "LPoorDesk$Book;" ∈ gTb := gTb_of 334 (by decide +kernel) (by decide +kernel)
theorem m_335 : Cond.fieldLink "PoorDesk" 24 "PoorDesk" "reckoner" "LPoorDesk$Reckoner;" ∈ gTb := gTb_of 335 (by decide +kernel) (by decide +kernel)
theorem m_336 : Cond.fieldLink "PoorDesk" 30 "PoorDesk" "sheets" "[LPoorDesk$Sheet;" ∈ gTb := gTb_of 336 (by decide +kernel) (by decide +kernel)
theorem m_337 : Cond.fieldLink "PoorDesk" 35 "PoorDesk" "isKept" "Z" ∈ gTb := gTb_of 337 (by decide +kernel) (by decide +kernel)
theorem m_338 : Cond.fieldLink "PoorDesk" 39 "PoorDesk" "findings" "I" ∈ gTb := gTb_of 338 (by decide +kernel) (by decide +kernel)
theorem m_352 : Cond.methodLink "PoorDeskLaw" 13 yX9_parish ∈ gTb := gTb_of 352 (by decide +kernel) (by decide +kernel)
theorem m_353 : Cond.instanceMethod yX9_parish ∈ gTb := gTb_of 353 (by decide +kernel) (by decide +kernel)
theorem m_354 : Cond.selects "PoorDesk" yX9_parish yX9_parish ∈ gTb := gTb_of 354 (by decide +kernel) (by decide +kernel)
theorem m_355 : Cond.code yX9_parish cX9_parish 2 (some .int) ∈ gTb := gTb_of 355 (by decide +kernel) (by decide +kernel)
theorem m_356 : Cond.methodLink "PoorDesk" 43 yX9_within ∈ gTb := gTb_of 356 (by decide +kernel) (by decide +kernel)
theorem m_357 : Cond.static yX9_within ∈ gTb := gTb_of 357 (by decide +kernel) (by decide +kernel)
theorem m_358 : Cond.code yX9_within cX9_within 3 (some .boolean) ∈ gTb := gTb_of 358 (by decide +kernel) (by decide +kernel)
theorem m_359 : Cond.constant "PoorDesk" 47 (-100001) ∈ gTb := gTb_of 359 (by decide +kernel) (by decide +kernel)
theorem m_360 : Cond.methodLink "PoorDesk" 48 yX9_finding ∈ gTb := gTb_of 360 (by decide +kernel) (by decide +kernel)
theorem m_362 : Cond.instanceMethod yX9_finding ∈ gTb := gTb_of 362 (by decide +kernel) (by decide +kernel)
theorem m_363 : Cond.code yX9_finding cX9_finding 2 (some .int) ∈ gTb := gTb_of 363 (by decide +kernel) (by decide +kernel)
theorem m_364 : Cond.constant "PoorDesk" 61 (-100005) ∈ gTb := gTb_of 364 (by decide +kernel) (by decide +kernel)
theorem m_365 : Cond.methodLink "PoorDesk" 62 yX4_add ∈ gTb := gTb_of 365 (by decide +kernel) (by decide +kernel)
theorem m_366 : Cond.instanceMethod yX4_add ∈ gTb := gTb_of 366 (by decide +kernel) (by decide +kernel)
theorem m_367 : Cond.selects "PoorDesk$Parishes" yX4_add yX4_add ∈ gTb := gTb_of 367 (by decide +kernel) (by decide +kernel)
theorem m_368 : Cond.code yX4_add cX4_add 2 (some .int) ∈ gTb := gTb_of 368 (by decide +kernel) (by decide +kernel)
theorem m_369 : Cond.methodLink "PoorDeskLaw" 18 yX9_miles ∈ gTb := gTb_of 369 (by decide +kernel) (by decide +kernel)
theorem m_370 : Cond.instanceMethod yX9_miles ∈ gTb := gTb_of 370 (by decide +kernel) (by decide +kernel)
theorem m_371 : Cond.selects "PoorDesk" yX9_miles yX9_miles ∈ gTb := gTb_of 371 (by decide +kernel) (by decide +kernel)
theorem m_372 : Cond.code yX9_miles cX9_miles 5 (some .int) ∈ gTb := gTb_of 372 (by decide +kernel) (by decide +kernel)
theorem m_373 : Cond.methodLink "PoorDesk" 65 yX4_has ∈ gTb := gTb_of 373 (by decide +kernel) (by decide +kernel)
theorem m_374 : Cond.instanceMethod yX4_has ∈ gTb := gTb_of 374 (by decide +kernel) (by decide +kernel)
theorem m_375 : Cond.selects "PoorDesk$Parishes" yX4_has yX4_has ∈ gTb := gTb_of 375 (by decide +kernel) (by decide +kernel)
theorem m_376 : Cond.code yX4_has cX4_has 2 (some .boolean) ∈ gTb := gTb_of 376 (by decide +kernel) (by decide +kernel)
theorem m_377 : Cond.constant "PoorDesk" 69 (-100003) ∈ gTb := gTb_of 377 (by decide +kernel) (by decide +kernel)
theorem m_378 : Cond.methodLink "PoorDeskLaw" 23 yX9_person ∈ gTb := gTb_of 378 (by decide +kernel) (by decide +kernel)
theorem m_379 : Cond.instanceMethod yX9_person ∈ gTb := gTb_of 379 (by decide +kernel) (by decide +kernel)
theorem m_380 : Cond.selects "PoorDesk" yX9_person yX9_person ∈ gTb := gTb_of 380 (by decide +kernel) (by decide +kernel)
theorem m_381 : Cond.code yX9_person cX9_person 5 (some .int) ∈ gTb := gTb_of 381 (by decide +kernel) (by decide +kernel)
theorem m_382 : Cond.methodLink "PoorDesk" 74 yX9_isDay ∈ gTb := gTb_of 382 (by decide +kernel) (by decide +kernel)
theorem m_383 : Cond.static yX9_isDay ∈ gTb := gTb_of 383 (by decide +kernel) (by decide +kernel)
theorem m_384 : Cond.code yX9_isDay cX9_isDay 1 (some .boolean) ∈ gTb := gTb_of 384 (by decide +kernel) (by decide +kernel)
theorem m_385 : Cond.methodLink "PoorDesk" 84 yX5_add ∈ gTb := gTb_of 385 (by decide +kernel) (by decide +kernel)
theorem m_386 : Cond.instanceMethod yX5_add ∈ gTb := gTb_of 386 (by decide +kernel) (by decide +kernel)
theorem m_387 : Cond.selects "PoorDesk$Persons" yX5_add yX5_add ∈ gTb := gTb_of 387 (by decide +kernel) (by decide +kernel)
theorem m_388 : Cond.code yX5_add cX5_add 4 (some .int) ∈ gTb := gTb_of 388 (by decide +kernel) (by decide +kernel)
theorem m_389 : Cond.methodLink "PoorDesk" 91 yX6_enter ∈ gTb := gTb_of 389 (by decide +kernel) (by decide +kernel)
theorem m_390 : Cond.instanceMethod yX6_enter ∈ gTb := gTb_of 390 (by decide +kernel) (by decide +kernel)
theorem m_391 : Cond.selects "PoorDesk$Poor" yX6_enter yX6_enter ∈ gTb := gTb_of 391 (by decide +kernel) (by decide +kernel)
theorem m_392 : Cond.code yX6_enter cX6_enter 2 none ∈ gTb := gTb_of 392 (by decide +kernel) (by decide +kernel)
theorem m_393 : Cond.methodLink "PoorDeskLaw" 27 yX9_as ∈ gTb := gTb_of 393 (by decide +kernel) (by decide +kernel)
theorem m_394 : Cond.instanceMethod yX9_as ∈ gTb := gTb_of 394 (by decide +kernel) (by decide +kernel)
theorem m_395 : Cond.selects "PoorDesk" yX9_as yX9_as ∈ gTb := gTb_of 395 (by decide +kernel) (by decide +kernel)
theorem m_396 : Cond.code yX9_as cX9_as 3 (some .int) ∈ gTb := gTb_of 396 (by decide +kernel) (by decide +kernel)
theorem m_397 : Cond.methodLink "PoorDesk" 97 yX5_has ∈ gTb := gTb_of 397 (by decide +kernel) (by decide +kernel)
theorem m_398 : Cond.instanceMethod yX5_has ∈ gTb := gTb_of 398 (by decide +kernel) (by decide +kernel)
theorem m_399 : Cond.selects "PoorDesk$Persons" yX5_has yX5_has ∈ gTb := gTb_of 399 (by decide +kernel) (by decide +kernel)
theorem m_400 : Cond.code yX5_has cX5_has 2 (some .boolean) ∈ gTb := gTb_of 400 (by decide +kernel) (by decide +kernel)
theorem m_401 : Cond.methodLink "PoorDesk" 98 yX5_isOf ∈ gTb := gTb_of 401 (by decide +kernel) (by decide +kernel)
theorem m_402 : Cond.instanceMethod yX5_isOf ∈ gTb := gTb_of 402 (by decide +kernel) (by decide +kernel)
theorem m_403 : Cond.selects "PoorDesk$Persons" yX5_isOf yX5_isOf ∈ gTb := gTb_of 403 (by decide +kernel) (by decide +kernel)
theorem m_404 : Cond.code yX5_isOf cX5_isOf 5 (some .boolean) ∈ gTb := gTb_of 404 (by decide +kernel) (by decide +kernel)
theorem m_405 : Cond.fieldLink "PoorDesk$Persons" 31 "PoorDesk$Persons" "KIND_OVER" "[I" ∈ gTb := gTb_of 405 (by decide +kernel) (by decide +kernel)
theorem m_407 : Cond.constant "PoorDesk" 102 (-100004) ∈ gTb := gTb_of 407 (by decide +kernel) (by decide +kernel)
theorem m_408 : Cond.methodLink "PoorDeskLaw" 32 yX9_husband ∈ gTb := gTb_of 408 (by decide +kernel) (by decide +kernel)
theorem m_409 : Cond.instanceMethod yX9_husband ∈ gTb := gTb_of 409 (by decide +kernel) (by decide +kernel)
theorem m_410 : Cond.selects "PoorDesk" yX9_husband yX9_husband ∈ gTb := gTb_of 410 (by decide +kernel) (by decide +kernel)
theorem m_411 : Cond.code yX9_husband cX9_husband 5 (some .int) ∈ gTb := gTb_of 411 (by decide +kernel) (by decide +kernel)
theorem m_412 : Cond.methodLink "PoorDesk" 107 yX5_comesTo ∈ gTb := gTb_of 412 (by decide +kernel) (by decide +kernel)
theorem m_413 : Cond.instanceMethod yX5_comesTo ∈ gTb := gTb_of 413 (by decide +kernel) (by decide +kernel)
theorem m_414 : Cond.selects "PoorDesk$Persons" yX5_comesTo yX5_comesTo ∈ gTb := gTb_of 414 (by decide +kernel) (by decide +kernel)
theorem m_415 : Cond.code yX5_comesTo cX5_comesTo 5 (some .boolean) ∈ gTb := gTb_of 415 (by decide +kernel) (by decide +kernel)
theorem m_416 : Cond.methodLink "PoorDesk$Persons" 34 yX5_has ∈ gTb := gTb_of 416 (by decide +kernel) (by decide +kernel)
theorem m_417 : Cond.constant "PoorDesk" 110 (-100007) ∈ gTb := gTb_of 417 (by decide +kernel) (by decide +kernel)
theorem m_418 : Cond.methodLink "PoorDesk" 111 yX5_follow ∈ gTb := gTb_of 418 (by decide +kernel) (by decide +kernel)
theorem m_419 : Cond.instanceMethod yX5_follow ∈ gTb := gTb_of 419 (by decide +kernel) (by decide +kernel)
theorem m_420 : Cond.selects "PoorDesk$Persons" yX5_follow yX5_follow ∈ gTb := gTb_of 420 (by decide +kernel) (by decide +kernel)
theorem m_421 : Cond.code yX5_follow cX5_follow 5 (some .int) ∈ gTb := gTb_of 421 (by decide +kernel) (by decide +kernel)
theorem m_422 : Cond.methodLink "PoorDeskLaw" 36 yX9_father ∈ gTb := gTb_of 422 (by decide +kernel) (by decide +kernel)
theorem m_423 : Cond.instanceMethod yX9_father ∈ gTb := gTb_of 423 (by decide +kernel) (by decide +kernel)
theorem m_424 : Cond.selects "PoorDesk" yX9_father yX9_father ∈ gTb := gTb_of 424 (by decide +kernel) (by decide +kernel)
theorem m_425 : Cond.code yX9_father cX9_father 3 (some .int) ∈ gTb := gTb_of 425 (by decide +kernel) (by decide +kernel)
theorem m_426 : Cond.methodLink "PoorDeskLaw" 40 yX9_fact ∈ gTb := gTb_of 426 (by decide +kernel) (by decide +kernel)
theorem m_427 : Cond.instanceMethod yX9_fact ∈ gTb := gTb_of 427 (by decide +kernel) (by decide +kernel)
theorem m_428 : Cond.selects "PoorDesk" yX9_fact yX9_fact ∈ gTb := gTb_of 428 (by decide +kernel) (by decide +kernel)
theorem m_429 : Cond.code yX9_fact cX9_fact 8 (some .int) ∈ gTb := gTb_of 429 (by decide +kernel) (by decide +kernel)
theorem m_430 : Cond.methodLink "PoorDesk" 121 yX1_add ∈ gTb := gTb_of 430 (by decide +kernel) (by decide +kernel)
theorem m_431 : Cond.instanceMethod yX1_add ∈ gTb := gTb_of 431 (by decide +kernel) (by decide +kernel)
theorem m_432 : Cond.selects "PoorDesk$Facts" yX1_add yX1_add ∈ gTb := gTb_of 432 (by decide +kernel) (by decide +kernel)
theorem m_433 : Cond.code yX1_add cX1_add 8 (some .int) ∈ gTb := gTb_of 433 (by decide +kernel) (by decide +kernel)
theorem m_434 : Cond.methodLink "PoorDeskLaw" 45 yX9_doubt ∈ gTb := gTb_of 434 (by decide +kernel) (by decide +kernel)
theorem m_435 : Cond.instanceMethod yX9_doubt ∈ gTb := gTb_of 435 (by decide +kernel) (by decide +kernel)
theorem m_436 : Cond.selects "PoorDesk" yX9_doubt yX9_doubt ∈ gTb := gTb_of 436 (by decide +kernel) (by decide +kernel)
theorem m_437 : Cond.code yX9_doubt cX9_doubt 3 (some .int) ∈ gTb := gTb_of 437 (by decide +kernel) (by decide +kernel)
theorem m_438 : Cond.methodLink "PoorDesk" 124 yX1_has ∈ gTb := gTb_of 438 (by decide +kernel) (by decide +kernel)
theorem m_439 : Cond.instanceMethod yX1_has ∈ gTb := gTb_of 439 (by decide +kernel) (by decide +kernel)
theorem m_440 : Cond.selects "PoorDesk$Facts" yX1_has yX1_has ∈ gTb := gTb_of 440 (by decide +kernel) (by decide +kernel)
theorem m_441 : Cond.code yX1_has cX1_has 2 (some .boolean) ∈ gTb := gTb_of 441 (by decide +kernel) (by decide +kernel)
theorem m_442 : Cond.methodLink "PoorDesk" 125 yX1_isDoubted ∈ gTb := gTb_of 442 (by decide +kernel) (by decide +kernel)
theorem m_443 : Cond.instanceMethod yX1_isDoubted ∈ gTb := gTb_of 443 (by decide +kernel) (by decide +kernel)
theorem m_444 : Cond.selects "PoorDesk$Facts" yX1_isDoubted yX1_isDoubted ∈ gTb := gTb_of 444 (by decide +kernel) (by decide +kernel)
theorem m_445 : Cond.code yX1_isDoubted cX1_isDoubted 2 (some .boolean) ∈ gTb := gTb_of 445 (by decide +kernel) (by decide +kernel)
theorem m_446 : Cond.methodLink "PoorDesk" 128 yX1_countDoubted ∈ gTb := gTb_of 446 (by decide +kernel) (by decide +kernel)
theorem m_447 : Cond.instanceMethod yX1_countDoubted ∈ gTb := gTb_of 447 (by decide +kernel) (by decide +kernel)
theorem m_448 : Cond.selects "PoorDesk$Facts" yX1_countDoubted yX1_countDoubted ∈ gTb := gTb_of 448 (by decide +kernel) (by decide +kernel)
theorem m_449 : Cond.code yX1_countDoubted cX1_countDoubted 3 (some .int) ∈ gTb := gTb_of 449 (by decide +kernel) (by decide +kernel)
theorem m_450 : Cond.methodLink "PoorDeskLaw" 50 yX9_forget ∈ gTb := gTb_of 450 (by decide +kernel) (by decide +kernel)
theorem m_451 : Cond.instanceMethod yX9_forget ∈ gTb := gTb_of 451 (by decide +kernel) (by decide +kernel)
theorem m_452 : Cond.selects "PoorDesk" yX9_forget yX9_forget ∈ gTb := gTb_of 452 (by decide +kernel) (by decide +kernel)
theorem m_453 : Cond.code yX9_forget cX9_forget 1 (some .int) ∈ gTb := gTb_of 453 (by decide +kernel) (by decide +kernel)
theorem m_454 : Cond.constant "PoorDesk" 135 (-100006) ∈ gTb := gTb_of 454 (by decide +kernel) (by decide +kernel)
theorem m_455 : Cond.methodLink "PoorDeskLaw" 55 yX9_law ∈ gTb := gTb_of 455 (by decide +kernel) (by decide +kernel)
theorem m_456 : Cond.instanceMethod yX9_law ∈ gTb := gTb_of 456 (by decide +kernel) (by decide +kernel)
theorem m_457 : Cond.selects "PoorDesk" yX9_law yX9_law ∈ gTb := gTb_of 457 (by decide +kernel) (by decide +kernel)
theorem m_458 : Cond.code yX9_law cX9_law 5 (some .int) ∈ gTb := gTb_of 458 (by decide +kernel) (by decide +kernel)
theorem m_459 : Cond.methodLink "PoorDesk" 136 yX9_hasNumber ∈ gTb := gTb_of 459 (by decide +kernel) (by decide +kernel)
theorem m_460 : Cond.static yX9_hasNumber ∈ gTb := gTb_of 460 (by decide +kernel) (by decide +kernel)
theorem m_461 : Cond.code yX9_hasNumber cX9_hasNumber 1 (some .boolean) ∈ gTb := gTb_of 461 (by decide +kernel) (by decide +kernel)
theorem m_462 : Cond.methodLink "PoorDesk" 146 yX2_add ∈ gTb := gTb_of 462 (by decide +kernel) (by decide +kernel)
theorem m_463 : Cond.instanceMethod yX2_add ∈ gTb := gTb_of 463 (by decide +kernel) (by decide +kernel)
theorem m_464 : Cond.selects "PoorDesk$Laws" yX2_add yX2_add ∈ gTb := gTb_of 464 (by decide +kernel) (by decide +kernel)
theorem m_465 : Cond.code yX2_add cX2_add 5 (some .int) ∈ gTb := gTb_of 465 (by decide +kernel) (by decide +kernel)
theorem m_466 : Cond.methodLink "PoorDeskLaw" 60 yX9_ends ∈ gTb := gTb_of 466 (by decide +kernel) (by decide +kernel)
theorem m_467 : Cond.instanceMethod yX9_ends ∈ gTb := gTb_of 467 (by decide +kernel) (by decide +kernel)
theorem m_468 : Cond.selects "PoorDesk" yX9_ends yX9_ends ∈ gTb := gTb_of 468 (by decide +kernel) (by decide +kernel)
theorem m_469 : Cond.code yX9_ends cX9_ends 4 (some .int) ∈ gTb := gTb_of 469 (by decide +kernel) (by decide +kernel)
theorem m_470 : Cond.methodLink "PoorDesk" 149 yX2_has ∈ gTb := gTb_of 470 (by decide +kernel) (by decide +kernel)
theorem m_471 : Cond.instanceMethod yX2_has ∈ gTb := gTb_of 471 (by decide +kernel) (by decide +kernel)
theorem m_472 : Cond.selects "PoorDesk$Laws" yX2_has yX2_has ∈ gTb := gTb_of 472 (by decide +kernel) (by decide +kernel)
theorem m_473 : Cond.code yX2_has cX2_has 2 (some .boolean) ∈ gTb := gTb_of 473 (by decide +kernel) (by decide +kernel)
theorem m_474 : Cond.methodLink "PoorDeskLaw" 64 yX9_own ∈ gTb := gTb_of 474 (by decide +kernel) (by decide +kernel)
theorem m_475 : Cond.instanceMethod yX9_own ∈ gTb := gTb_of 475 (by decide +kernel) (by decide +kernel)
theorem m_476 : Cond.selects "PoorDesk" yX9_own yX9_own ∈ gTb := gTb_of 476 (by decide +kernel) (by decide +kernel)
theorem m_477 : Cond.code yX9_own cX9_own 4 (some .int) ∈ gTb := gTb_of 477 (by decide +kernel) (by decide +kernel)
theorem m_478 : Cond.methodLink "PoorDesk" 156 yX9_canReckon ∈ gTb := gTb_of 478 (by decide +kernel) (by decide +kernel)
theorem m_480 : Cond.instanceMethod yX9_canReckon ∈ gTb := gTb_of 480 (by decide +kernel) (by decide +kernel)
theorem m_481 : Cond.code yX9_canReckon cX9_canReckon 4 (some .boolean) ∈ gTb := gTb_of 481 (by decide +kernel) (by decide +kernel)
theorem m_482 : Cond.methodLink "PoorDesk" 159 yX7_ownOf ∈ gTb := gTb_of 482 (by decide +kernel) (by decide +kernel)
theorem m_483 : Cond.instanceMethod yX7_ownOf ∈ gTb := gTb_of 483 (by decide +kernel) (by decide +kernel)
theorem m_484 : Cond.selects "PoorDesk$Reckoner" yX7_ownOf yX7_ownOf ∈ gTb := gTb_of 484 (by decide +kernel) (by decide +kernel)
theorem m_485 : Cond.code yX7_ownOf cX7_ownOf 4 (some .int) ∈ gTb := gTb_of 485 (by decide +kernel) (by decide +kernel)
theorem m_486 : Cond.methodLink "PoorDesk$Reckoner" 34 yX7_prepare ∈ gTb := gTb_of 486 (by decide +kernel) (by decide +kernel)
theorem m_488 : Cond.instanceMethod yX7_prepare ∈ gTb := gTb_of 488 (by decide +kernel) (by decide +kernel)
theorem m_489 : Cond.code yX7_prepare cX7_prepare 5 none ∈ gTb := gTb_of 489 (by decide +kernel) (by decide +kernel)
theorem m_490 : Cond.methodLink "PoorDesk$Reckoner" 82 yX7_gainByFact ∈ gTb := gTb_of 490 (by decide +kernel) (by decide +kernel)
theorem m_492 : Cond.instanceMethod yX7_gainByFact ∈ gTb := gTb_of 492 (by decide +kernel) (by decide +kernel)
theorem m_493 : Cond.code yX7_gainByFact cX7_gainByFact 8 (some .int) ∈ gTb := gTb_of 493 (by decide +kernel) (by decide +kernel)
theorem m_494 : Cond.methodLink "PoorDesk$Reckoner" 117 yX2_anyAtMost ∈ gTb := gTb_of 494 (by decide +kernel) (by decide +kernel)
theorem m_495 : Cond.instanceMethod yX2_anyAtMost ∈ gTb := gTb_of 495 (by decide +kernel) (by decide +kernel)
theorem m_496 : Cond.selects "PoorDesk$Laws" yX2_anyAtMost yX2_anyAtMost ∈ gTb := gTb_of 496 (by decide +kernel) (by decide +kernel)
theorem m_497 : Cond.code yX2_anyAtMost cX2_anyAtMost 5 (some .boolean) ∈ gTb := gTb_of 497 (by decide +kernel) (by decide +kernel)
theorem m_498 : Cond.methodLink "PoorDesk$Laws" 28 yX2_rules ∈ gTb := gTb_of 498 (by decide +kernel) (by decide +kernel)
theorem m_499 : Cond.instanceMethod yX2_rules ∈ gTb := gTb_of 499 (by decide +kernel) (by decide +kernel)
theorem m_500 : Cond.selects "PoorDesk$Laws" yX2_rules yX2_rules ∈ gTb := gTb_of 500 (by decide +kernel) (by decide +kernel)
theorem m_501 : Cond.code yX2_rules cX2_rules 4 (some .boolean) ∈ gTb := gTb_of 501 (by decide +kernel) (by decide +kernel)
theorem m_502 : Cond.methodLink "PoorDesk$Reckoner" 92 yX5_has ∈ gTb := gTb_of 502 (by decide +kernel) (by decide +kernel)
theorem m_503 : Cond.methodLink "PoorDesk$Reckoner" 98 yX7_gainByBirth ∈ gTb := gTb_of 503 (by decide +kernel) (by decide +kernel)
theorem m_505 : Cond.instanceMethod yX7_gainByBirth ∈ gTb := gTb_of 505 (by decide +kernel) (by decide +kernel)
theorem m_506 : Cond.code yX7_gainByBirth cX7_gainByBirth 4 (some .int) ∈ gTb := gTb_of 506 (by decide +kernel) (by decide +kernel)
theorem m_507 : Cond.methodLink "PoorDesk$Reckoner" 129 yX2_anyRules ∈ gTb := gTb_of 507 (by decide +kernel) (by decide +kernel)
theorem m_508 : Cond.instanceMethod yX2_anyRules ∈ gTb := gTb_of 508 (by decide +kernel) (by decide +kernel)
theorem m_509 : Cond.selects "PoorDesk$Laws" yX2_anyRules yX2_anyRules ∈ gTb := gTb_of 509 (by decide +kernel) (by decide +kernel)
theorem m_510 : Cond.code yX2_anyRules cX2_anyRules 4 (some .boolean) ∈ gTb := gTb_of 510 (by decide +kernel) (by decide +kernel)
theorem m_511 : Cond.methodLink "PoorDesk$Reckoner" 101 yX7_leaderOf ∈ gTb := gTb_of 511 (by decide +kernel) (by decide +kernel)
theorem m_513 : Cond.instanceMethod yX7_leaderOf ∈ gTb := gTb_of 513 (by decide +kernel) (by decide +kernel)
theorem m_514 : Cond.code yX7_leaderOf cX7_leaderOf 6 (some .int) ∈ gTb := gTb_of 514 (by decide +kernel) (by decide +kernel)
theorem m_515 : Cond.methodLink "PoorDesk$Reckoner" 137 yX2_anyAbove ∈ gTb := gTb_of 515 (by decide +kernel) (by decide +kernel)
theorem m_516 : Cond.instanceMethod yX2_anyAbove ∈ gTb := gTb_of 516 (by decide +kernel) (by decide +kernel)
theorem m_517 : Cond.selects "PoorDesk$Laws" yX2_anyAbove yX2_anyAbove ∈ gTb := gTb_of 517 (by decide +kernel) (by decide +kernel)
theorem m_518 : Cond.code yX2_anyAbove cX2_anyAbove 5 (some .boolean) ∈ gTb := gTb_of 518 (by decide +kernel) (by decide +kernel)
theorem m_519 : Cond.methodLink "PoorDesk$Reckoner" 38 yX7_ownParish ∈ gTb := gTb_of 519 (by decide +kernel) (by decide +kernel)
theorem m_521 : Cond.instanceMethod yX7_ownParish ∈ gTb := gTb_of 521 (by decide +kernel) (by decide +kernel)
theorem m_522 : Cond.code yX7_ownParish cX7_ownParish 8 (some .int) ∈ gTb := gTb_of 522 (by decide +kernel) (by decide +kernel)
theorem m_523 : Cond.methodLink "PoorDesk" 162 yX9_parishOrNone ∈ gTb := gTb_of 523 (by decide +kernel) (by decide +kernel)
theorem m_525 : Cond.instanceMethod yX9_parishOrNone ∈ gTb := gTb_of 525 (by decide +kernel) (by decide +kernel)
theorem m_526 : Cond.code yX9_parishOrNone cX9_parishOrNone 2 (some .int) ∈ gTb := gTb_of 526 (by decide +kernel) (by decide +kernel)
theorem m_527 : Cond.methodLink "PoorDeskLaw" 68 yX9_settlement ∈ gTb := gTb_of 527 (by decide +kernel) (by decide +kernel)
theorem m_528 : Cond.instanceMethod yX9_settlement ∈ gTb := gTb_of 528 (by decide +kernel) (by decide +kernel)
theorem m_529 : Cond.selects "PoorDesk" yX9_settlement yX9_settlement ∈ gTb := gTb_of 529 (by decide +kernel) (by decide +kernel)
theorem m_530 : Cond.code yX9_settlement cX9_settlement 4 (some .int) ∈ gTb := gTb_of 530 (by decide +kernel) (by decide +kernel)
theorem m_531 : Cond.methodLink "PoorDesk" 165 yX7_settlementOf ∈ gTb := gTb_of 531 (by decide +kernel) (by decide +kernel)
theorem m_532 : Cond.instanceMethod yX7_settlementOf ∈ gTb := gTb_of 532 (by decide +kernel) (by decide +kernel)
theorem m_533 : Cond.selects "PoorDesk$Reckoner" yX7_settlementOf yX7_settlementOf ∈ gTb := gTb_of 533 (by decide +kernel) (by decide +kernel)
theorem m_534 : Cond.code yX7_settlementOf cX7_settlementOf 4 (some .int) ∈ gTb := gTb_of 534 (by decide +kernel) (by decide +kernel)
theorem m_535 : Cond.methodLink "PoorDesk$Reckoner" 42 yX7_settledParish ∈ gTb := gTb_of 535 (by decide +kernel) (by decide +kernel)
theorem m_537 : Cond.instanceMethod yX7_settledParish ∈ gTb := gTb_of 537 (by decide +kernel) (by decide +kernel)
theorem m_538 : Cond.code yX7_settledParish cX7_settledParish 2 (some .int) ∈ gTb := gTb_of 538 (by decide +kernel) (by decide +kernel)
theorem m_539 : Cond.methodLink "PoorDesk$Reckoner" 46 yX7_teller ∈ gTb := gTb_of 539 (by decide +kernel) (by decide +kernel)
theorem m_541 : Cond.instanceMethod yX7_teller ∈ gTb := gTb_of 541 (by decide +kernel) (by decide +kernel)
theorem m_542 : Cond.code yX7_teller cX7_teller 3 (some .int) ∈ gTb := gTb_of 542 (by decide +kernel) (by decide +kernel)
theorem m_543 : Cond.methodLink "PoorDeskLaw" 72 yX9_through ∈ gTb := gTb_of 543 (by decide +kernel) (by decide +kernel)
theorem m_544 : Cond.instanceMethod yX9_through ∈ gTb := gTb_of 544 (by decide +kernel) (by decide +kernel)
theorem m_545 : Cond.selects "PoorDesk" yX9_through yX9_through ∈ gTb := gTb_of 545 (by decide +kernel) (by decide +kernel)
theorem m_546 : Cond.code yX9_through cX9_through 4 (some .int) ∈ gTb := gTb_of 546 (by decide +kernel) (by decide +kernel)
theorem m_547 : Cond.methodLink "PoorDesk" 168 yX7_tellerOf ∈ gTb := gTb_of 547 (by decide +kernel) (by decide +kernel)
theorem m_548 : Cond.instanceMethod yX7_tellerOf ∈ gTb := gTb_of 548 (by decide +kernel) (by decide +kernel)
theorem m_549 : Cond.selects "PoorDesk$Reckoner" yX7_tellerOf yX7_tellerOf ∈ gTb := gTb_of 549 (by decide +kernel) (by decide +kernel)
theorem m_550 : Cond.code yX7_tellerOf cX7_tellerOf 4 (some .int) ∈ gTb := gTb_of 550 (by decide +kernel) (by decide +kernel)
theorem m_551 : Cond.methodLink "PoorDeskLaw" 76 yX9_could ∈ gTb := gTb_of 551 (by decide +kernel) (by decide +kernel)
theorem m_552 : Cond.instanceMethod yX9_could ∈ gTb := gTb_of 552 (by decide +kernel) (by decide +kernel)
theorem m_553 : Cond.selects "PoorDesk" yX9_could yX9_could ∈ gTb := gTb_of 553 (by decide +kernel) (by decide +kernel)
theorem m_554 : Cond.code yX9_could cX9_could 4 (some .int) ∈ gTb := gTb_of 554 (by decide +kernel) (by decide +kernel)
theorem m_555 : Cond.methodLink "PoorDesk" 171 yX7_couldBe ∈ gTb := gTb_of 555 (by decide +kernel) (by decide +kernel)
theorem m_556 : Cond.instanceMethod yX7_couldBe ∈ gTb := gTb_of 556 (by decide +kernel) (by decide +kernel)
theorem m_557 : Cond.selects "PoorDesk$Reckoner" yX7_couldBe yX7_couldBe ∈ gTb := gTb_of 557 (by decide +kernel) (by decide +kernel)
theorem m_558 : Cond.code yX7_couldBe cX7_couldBe 4 (some .int) ∈ gTb := gTb_of 558 (by decide +kernel) (by decide +kernel)
theorem m_559 : Cond.methodLink "PoorDesk$Reckoner" 49 yX7_tryAllWays ∈ gTb := gTb_of 559 (by decide +kernel) (by decide +kernel)
theorem m_561 : Cond.instanceMethod yX7_tryAllWays ∈ gTb := gTb_of 561 (by decide +kernel) (by decide +kernel)
theorem m_562 : Cond.code yX7_tryAllWays cX7_tryAllWays 6 (some .int) ∈ gTb := gTb_of 562 (by decide +kernel) (by decide +kernel)
theorem m_563 : Cond.methodLink "PoorDesk$Reckoner" 152 yX7_findDoubted ∈ gTb := gTb_of 563 (by decide +kernel) (by decide +kernel)
theorem m_565 : Cond.instanceMethod yX7_findDoubted ∈ gTb := gTb_of 565 (by decide +kernel) (by decide +kernel)
theorem m_566 : Cond.code yX7_findDoubted cX7_findDoubted 2 none ∈ gTb := gTb_of 566 (by decide +kernel) (by decide +kernel)
theorem m_567 : Cond.methodLink "PoorDesk$Reckoner" 158 yJ7_fill_53178 ∈ gTb := gTb_of 567 (by decide +kernel) (by decide +kernel)
theorem m_568 : Cond.static yJ7_fill_53178 ∈ gTb := gTb_of 568 (by decide +kernel) (by decide +kernel)
theorem m_569 : Cond.code yJ7_fill_53178 cJ7_fill_53178 4 none ∈ gTb := gTb_of 569 (by decide +kernel) (by decide +kernel)
theorem m_570 : Cond.methodLink "PoorDesk$Reckoner" 164 yX1_isDoubted ∈ gTb := gTb_of 570 (by decide +kernel) (by decide +kernel)
theorem m_571 : Cond.methodLink "PoorDesk$Reckoner" 155 yX7_deniedIn ∈ gTb := gTb_of 571 (by decide +kernel) (by decide +kernel)
theorem m_573 : Cond.instanceMethod yX7_deniedIn ∈ gTb := gTb_of 573 (by decide +kernel) (by decide +kernel)
theorem m_574 : Cond.code yX7_deniedIn cX7_deniedIn 4 (some .int) ∈ gTb := gTb_of 574 (by decide +kernel) (by decide +kernel)
theorem m_575 : Cond.methodLink "PoorDeskLaw" 80 yX9_question ∈ gTb := gTb_of 575 (by decide +kernel) (by decide +kernel)
theorem m_576 : Cond.instanceMethod yX9_question ∈ gTb := gTb_of 576 (by decide +kernel) (by decide +kernel)
theorem m_577 : Cond.selects "PoorDesk" yX9_question yX9_question ∈ gTb := gTb_of 577 (by decide +kernel) (by decide +kernel)
theorem m_578 : Cond.code yX9_question cX9_question 4 (some .int) ∈ gTb := gTb_of 578 (by decide +kernel) (by decide +kernel)
theorem m_579 : Cond.methodLink "PoorDesk" 174 yX7_bestQuestion ∈ gTb := gTb_of 579 (by decide +kernel) (by decide +kernel)
theorem m_580 : Cond.instanceMethod yX7_bestQuestion ∈ gTb := gTb_of 580 (by decide +kernel) (by decide +kernel)
theorem m_581 : Cond.selects "PoorDesk$Reckoner" yX7_bestQuestion yX7_bestQuestion ∈ gTb := gTb_of 581 (by decide +kernel) (by decide +kernel)
theorem m_582 : Cond.code yX7_bestQuestion cX7_bestQuestion 8 (some .int) ∈ gTb := gTb_of 582 (by decide +kernel) (by decide +kernel)
theorem m_583 : Cond.constant "PoorDesk$Reckoner" 53 (-100006) ∈ gTb := gTb_of 583 (by decide +kernel) (by decide +kernel)
theorem m_584 : Cond.methodLink "PoorDesk$Reckoner" 58 yJ6_bitCount_0f7a4 ∈ gTb := gTb_of 584 (by decide +kernel) (by decide +kernel)
theorem m_585 : Cond.static yJ6_bitCount_0f7a4 ∈ gTb := gTb_of 585 (by decide +kernel) (by decide +kernel)
theorem m_586 : Cond.code yJ6_bitCount_0f7a4 cJ6_bitCount_0f7a4 1 (some .int) ∈ gTb := gTb_of 586 (by decide +kernel) (by decide +kernel)
theorem m_587 : Cond.constant "java/lang/Integer" 265 1431655765 ∈ gTb := gTb_of 587 (by decide +kernel) (by decide +kernel)
theorem m_588 : Cond.constant "java/lang/Integer" 266 858993459 ∈ gTb := gTb_of 588 (by decide +kernel) (by decide +kernel)
theorem m_589 : Cond.constant "java/lang/Integer" 267 252645135 ∈ gTb := gTb_of 589 (by decide +kernel) (by decide +kernel)
theorem m_590 : Cond.methodLink "PoorDesk$Reckoner" 63 Lib.Math.max.name ∈ gTb := gTb_of 590 (by decide +kernel) (by decide +kernel)
theorem m_591 : Cond.static Lib.Math.max.name ∈ gTb := gTb_of 591 (by decide +kernel) (by decide +kernel)
theorem m_592 : Cond.code Lib.Math.max.name Lib.Math.max.code 2 (some .int) ∈ gTb := gTb_of 592 (by decide +kernel) (by decide +kernel)
theorem m_593 : Cond.methodLink "PoorDeskLaw" 84 yX9_order ∈ gTb := gTb_of 593 (by decide +kernel) (by decide +kernel)
theorem m_594 : Cond.instanceMethod yX9_order ∈ gTb := gTb_of 594 (by decide +kernel) (by decide +kernel)
theorem m_595 : Cond.selects "PoorDesk" yX9_order yX9_order ∈ gTb := gTb_of 595 (by decide +kernel) (by decide +kernel)
theorem m_596 : Cond.code yX9_order cX9_order 5 (some .int) ∈ gTb := gTb_of 596 (by decide +kernel) (by decide +kernel)
theorem m_597 : Cond.methodLink "PoorDesk" 184 yX3_add ∈ gTb := gTb_of 597 (by decide +kernel) (by decide +kernel)
theorem m_598 : Cond.instanceMethod yX3_add ∈ gTb := gTb_of 598 (by decide +kernel) (by decide +kernel)
theorem m_599 : Cond.selects "PoorDesk$Orders" yX3_add yX3_add ∈ gTb := gTb_of 599 (by decide +kernel) (by decide +kernel)
theorem m_600 : Cond.code yX3_add cX3_add 6 (some .int) ∈ gTb := gTb_of 600 (by decide +kernel) (by decide +kernel)
theorem m_601 : Cond.methodLink "PoorDeskLaw" 88 yX9_appeal ∈ gTb := gTb_of 601 (by decide +kernel) (by decide +kernel)
theorem m_602 : Cond.instanceMethod yX9_appeal ∈ gTb := gTb_of 602 (by decide +kernel) (by decide +kernel)
theorem m_603 : Cond.selects "PoorDesk" yX9_appeal yX9_appeal ∈ gTb := gTb_of 603 (by decide +kernel) (by decide +kernel)
theorem m_604 : Cond.code yX9_appeal cX9_appeal 6 (some .int) ∈ gTb := gTb_of 604 (by decide +kernel) (by decide +kernel)
theorem m_605 : Cond.methodLink "PoorDesk" 187 yX3_has ∈ gTb := gTb_of 605 (by decide +kernel) (by decide +kernel)
theorem m_606 : Cond.instanceMethod yX3_has ∈ gTb := gTb_of 606 (by decide +kernel) (by decide +kernel)
theorem m_607 : Cond.selects "PoorDesk$Orders" yX3_has yX3_has ∈ gTb := gTb_of 607 (by decide +kernel) (by decide +kernel)
theorem m_608 : Cond.code yX3_has cX3_has 2 (some .boolean) ∈ gTb := gTb_of 608 (by decide +kernel) (by decide +kernel)
theorem m_609 : Cond.constant "PoorDesk" 197 (-100008) ∈ gTb := gTb_of 609 (by decide +kernel) (by decide +kernel)
theorem m_610 : Cond.methodLink "PoorDeskLaw" 92 yX9_ordered ∈ gTb := gTb_of 610 (by decide +kernel) (by decide +kernel)
theorem m_611 : Cond.instanceMethod yX9_ordered ∈ gTb := gTb_of 611 (by decide +kernel) (by decide +kernel)
theorem m_612 : Cond.selects "PoorDesk" yX9_ordered yX9_ordered ∈ gTb := gTb_of 612 (by decide +kernel) (by decide +kernel)
theorem m_613 : Cond.code yX9_ordered cX9_ordered 3 (some .int) ∈ gTb := gTb_of 613 (by decide +kernel) (by decide +kernel)
theorem m_614 : Cond.methodLink "PoorDeskLaw" 96 yX9_costs ∈ gTb := gTb_of 614 (by decide +kernel) (by decide +kernel)
theorem m_615 : Cond.instanceMethod yX9_costs ∈ gTb := gTb_of 615 (by decide +kernel) (by decide +kernel)
theorem m_616 : Cond.selects "PoorDesk" yX9_costs yX9_costs ∈ gTb := gTb_of 616 (by decide +kernel) (by decide +kernel)
theorem m_617 : Cond.code yX9_costs cX9_costs 2 (some .int) ∈ gTb := gTb_of 617 (by decide +kernel) (by decide +kernel)
theorem m_618 : Cond.methodLink "PoorDesk" 206 yX3_borneBy ∈ gTb := gTb_of 618 (by decide +kernel) (by decide +kernel)
theorem m_619 : Cond.instanceMethod yX3_borneBy ∈ gTb := gTb_of 619 (by decide +kernel) (by decide +kernel)
theorem m_620 : Cond.selects "PoorDesk$Orders" yX3_borneBy yX3_borneBy ∈ gTb := gTb_of 620 (by decide +kernel) (by decide +kernel)
theorem m_621 : Cond.code yX3_borneBy cX3_borneBy 5 (some .int) ∈ gTb := gTb_of 621 (by decide +kernel) (by decide +kernel)
theorem m_622 : Cond.methodLink "PoorDeskLaw" 100 yX9_set ∈ gTb := gTb_of 622 (by decide +kernel) (by decide +kernel)
theorem m_623 : Cond.instanceMethod yX9_set ∈ gTb := gTb_of 623 (by decide +kernel) (by decide +kernel)
theorem m_624 : Cond.selects "PoorDesk" yX9_set yX9_set ∈ gTb := gTb_of 624 (by decide +kernel) (by decide +kernel)
theorem m_625 : Cond.code yX9_set cX9_set 4 (some .int) ∈ gTb := gTb_of 625 (by decide +kernel) (by decide +kernel)
theorem m_626 : Cond.methodLink "PoorDeskLaw" 104 yX9_list ∈ gTb := gTb_of 626 (by decide +kernel) (by decide +kernel)
theorem m_627 : Cond.instanceMethod yX9_list ∈ gTb := gTb_of 627 (by decide +kernel) (by decide +kernel)
theorem m_628 : Cond.selects "PoorDesk" yX9_list yX9_list ∈ gTb := gTb_of 628 (by decide +kernel) (by decide +kernel)
theorem m_629 : Cond.code yX9_list cX9_list 6 (some .int) ∈ gTb := gTb_of 629 (by decide +kernel) (by decide +kernel)
theorem m_630 : Cond.methodLink "PoorDesk" 212 yX9_isWeek ∈ gTb := gTb_of 630 (by decide +kernel) (by decide +kernel)
theorem m_631 : Cond.static yX9_isWeek ∈ gTb := gTb_of 631 (by decide +kernel) (by decide +kernel)
theorem m_632 : Cond.code yX9_isWeek cX9_isWeek 1 (some .boolean) ∈ gTb := gTb_of 632 (by decide +kernel) (by decide +kernel)
theorem m_633 : Cond.methodLink "PoorDeskLaw" 108 yX9_earns ∈ gTb := gTb_of 633 (by decide +kernel) (by decide +kernel)
theorem m_634 : Cond.instanceMethod yX9_earns ∈ gTb := gTb_of 634 (by decide +kernel) (by decide +kernel)
theorem m_635 : Cond.selects "PoorDesk" yX9_earns yX9_earns ∈ gTb := gTb_of 635 (by decide +kernel) (by decide +kernel)
theorem m_636 : Cond.code yX9_earns cX9_earns 4 (some .int) ∈ gTb := gTb_of 636 (by decide +kernel) (by decide +kernel)
theorem m_637 : Cond.methodLink "PoorDeskLaw" 112 yX9_price ∈ gTb := gTb_of 637 (by decide +kernel) (by decide +kernel)
theorem m_638 : Cond.instanceMethod yX9_price ∈ gTb := gTb_of 638 (by decide +kernel) (by decide +kernel)
theorem m_639 : Cond.selects "PoorDesk" yX9_price yX9_price ∈ gTb := gTb_of 639 (by decide +kernel) (by decide +kernel)
theorem m_640 : Cond.code yX9_price cX9_price 4 (some .int) ∈ gTb := gTb_of 640 (by decide +kernel) (by decide +kernel)
theorem m_641 : Cond.methodLink "PoorDeskLaw" 116 yX9_relief ∈ gTb := gTb_of 641 (by decide +kernel) (by decide +kernel)
theorem m_642 : Cond.instanceMethod yX9_relief ∈ gTb := gTb_of 642 (by decide +kernel) (by decide +kernel)
theorem m_643 : Cond.selects "PoorDesk" yX9_relief yX9_relief ∈ gTb := gTb_of 643 (by decide +kernel) (by decide +kernel)
theorem m_644 : Cond.code yX9_relief cX9_relief 3 (some .int) ∈ gTb := gTb_of 644 (by decide +kernel) (by decide +kernel)
theorem m_645 : Cond.methodLink "PoorDesk" 227 yX6_listIn ∈ gTb := gTb_of 645 (by decide +kernel) (by decide +kernel)
theorem m_646 : Cond.instanceMethod yX6_listIn ∈ gTb := gTb_of 646 (by decide +kernel) (by decide +kernel)
theorem m_647 : Cond.selects "PoorDesk$Poor" yX6_listIn yX6_listIn ∈ gTb := gTb_of 647 (by decide +kernel) (by decide +kernel)
theorem m_648 : Cond.code yX6_listIn cX6_listIn 3 (some .int) ∈ gTb := gTb_of 648 (by decide +kernel) (by decide +kernel)
theorem m_649 : Cond.constant "PoorDesk" 231 (-100002) ∈ gTb := gTb_of 649 (by decide +kernel) (by decide +kernel)
theorem m_650 : Cond.methodLink "PoorDesk" 232 yX6_reliefOf ∈ gTb := gTb_of 650 (by decide +kernel) (by decide +kernel)
theorem m_651 : Cond.instanceMethod yX6_reliefOf ∈ gTb := gTb_of 651 (by decide +kernel) (by decide +kernel)
theorem m_652 : Cond.selects "PoorDesk$Poor" yX6_reliefOf yX6_reliefOf ∈ gTb := gTb_of 652 (by decide +kernel) (by decide +kernel)
theorem m_653 : Cond.code yX6_reliefOf cX6_reliefOf 7 (some .int) ∈ gTb := gTb_of 653 (by decide +kernel) (by decide +kernel)
theorem m_654 : Cond.methodLink "PoorDesk$Poor" 28 yX6_listIn ∈ gTb := gTb_of 654 (by decide +kernel) (by decide +kernel)
theorem m_655 : Cond.methodLink "PoorDesk$Poor" 32 yX6_isKeptByHusband ∈ gTb := gTb_of 655 (by decide +kernel) (by decide +kernel)
theorem m_656 : Cond.instanceMethod yX6_isKeptByHusband ∈ gTb := gTb_of 656 (by decide +kernel) (by decide +kernel)
theorem m_657 : Cond.selects "PoorDesk$Poor" yX6_isKeptByHusband yX6_isKeptByHusband ∈ gTb := gTb_of 657 (by decide +kernel) (by decide +kernel)
theorem m_658 : Cond.code yX6_isKeptByHusband cX6_isKeptByHusband 5 (some .boolean) ∈ gTb := gTb_of 658 (by decide +kernel) (by decide +kernel)
theorem m_659 : Cond.methodLink "PoorDesk$Poor" 53 yX5_has ∈ gTb := gTb_of 659 (by decide +kernel) (by decide +kernel)
theorem m_660 : Cond.methodLink "PoorDesk$Poor" 41 yX5_isWifeOf ∈ gTb := gTb_of 660 (by decide +kernel) (by decide +kernel)
theorem m_661 : Cond.instanceMethod yX5_isWifeOf ∈ gTb := gTb_of 661 (by decide +kernel) (by decide +kernel)
theorem m_662 : Cond.selects "PoorDesk$Persons" yX5_isWifeOf yX5_isWifeOf ∈ gTb := gTb_of 662 (by decide +kernel) (by decide +kernel)
theorem m_663 : Cond.code yX5_isWifeOf cX5_isWifeOf 3 (some .boolean) ∈ gTb := gTb_of 663 (by decide +kernel) (by decide +kernel)
theorem m_664 : Cond.methodLink "PoorDesk$Poor" 45 Lib.Math.max.name ∈ gTb := gTb_of 664 (by decide +kernel) (by decide +kernel)
theorem m_665 : Cond.methodLink "PoorDeskLaw" 120 yX9_week ∈ gTb := gTb_of 665 (by decide +kernel) (by decide +kernel)
theorem m_666 : Cond.instanceMethod yX9_week ∈ gTb := gTb_of 666 (by decide +kernel) (by decide +kernel)
theorem m_667 : Cond.selects "PoorDesk" yX9_week yX9_week ∈ gTb := gTb_of 667 (by decide +kernel) (by decide +kernel)
theorem m_668 : Cond.code yX9_week cX9_week 3 (some .int) ∈ gTb := gTb_of 668 (by decide +kernel) (by decide +kernel)
theorem m_669 : Cond.methodLink "PoorDesk" 236 yX6_reliefOfAll ∈ gTb := gTb_of 669 (by decide +kernel) (by decide +kernel)
theorem m_670 : Cond.instanceMethod yX6_reliefOfAll ∈ gTb := gTb_of 670 (by decide +kernel) (by decide +kernel)
theorem m_671 : Cond.selects "PoorDesk$Poor" yX6_reliefOfAll yX6_reliefOfAll ∈ gTb := gTb_of 671 (by decide +kernel) (by decide +kernel)
theorem m_672 : Cond.code yX6_reliefOfAll cX6_reliefOfAll 6 (some .int) ∈ gTb := gTb_of 672 (by decide +kernel) (by decide +kernel)
theorem m_673 : Cond.methodLink "PoorDesk$Poor" 57 yX6_reliefOf ∈ gTb := gTb_of 673 (by decide +kernel) (by decide +kernel)
theorem m_674 : Cond.methodLink "PoorDeskLaw" 124 yX9_rate ∈ gTb := gTb_of 674 (by decide +kernel) (by decide +kernel)
theorem m_675 : Cond.instanceMethod yX9_rate ∈ gTb := gTb_of 675 (by decide +kernel) (by decide +kernel)
theorem m_676 : Cond.selects "PoorDesk" yX9_rate yX9_rate ∈ gTb := gTb_of 676 (by decide +kernel) (by decide +kernel)
theorem m_677 : Cond.code yX9_rate cX9_rate 4 (some .int) ∈ gTb := gTb_of 677 (by decide +kernel) (by decide +kernel)
theorem m_678 : Cond.methodLink "PoorDesk" 239 yX4_allWorth ∈ gTb := gTb_of 678 (by decide +kernel) (by decide +kernel)
theorem m_679 : Cond.instanceMethod yX4_allWorth ∈ gTb := gTb_of 679 (by decide +kernel) (by decide +kernel)
theorem m_680 : Cond.selects "PoorDesk$Parishes" yX4_allWorth yX4_allWorth ∈ gTb := gTb_of 680 (by decide +kernel) (by decide +kernel)
theorem m_681 : Cond.code yX4_allWorth cX4_allWorth 3 (some .int) ∈ gTb := gTb_of 681 (by decide +kernel) (by decide +kernel)
theorem m_682 : Cond.methodLink "PoorDesk" 242 yX4_share ∈ gTb := gTb_of 682 (by decide +kernel) (by decide +kernel)
theorem m_683 : Cond.instanceMethod yX4_share ∈ gTb := gTb_of 683 (by decide +kernel) (by decide +kernel)
theorem m_684 : Cond.selects "PoorDesk$Parishes" yX4_share yX4_share ∈ gTb := gTb_of 684 (by decide +kernel) (by decide +kernel)
theorem m_685 : Cond.code yX4_share cX4_share 9 (some .int) ∈ gTb := gTb_of 685 (by decide +kernel) (by decide +kernel)
theorem m_686 : Cond.methodLink "PoorDeskLaw" 128 yX9_sheet ∈ gTb := gTb_of 686 (by decide +kernel) (by decide +kernel)
theorem m_687 : Cond.instanceMethod yX9_sheet ∈ gTb := gTb_of 687 (by decide +kernel) (by decide +kernel)
theorem m_688 : Cond.selects "PoorDesk" yX9_sheet yX9_sheet ∈ gTb := gTb_of 688 (by decide +kernel) (by decide +kernel)
theorem m_689 : Cond.code yX9_sheet cX9_sheet 4 (some .int) ∈ gTb := gTb_of 689 (by decide +kernel) (by decide +kernel)
theorem m_690 : Cond.methodLink "PoorDesk" 245 yX9_isSheet ∈ gTb := gTb_of 690 (by decide +kernel) (by decide +kernel)
theorem m_691 : Cond.static yX9_isSheet ∈ gTb := gTb_of 691 (by decide +kernel) (by decide +kernel)
theorem m_692 : Cond.code yX9_isSheet cX9_isSheet 1 (some .boolean) ∈ gTb := gTb_of 692 (by decide +kernel) (by decide +kernel)
theorem m_693 : Cond.methodLink "PoorDesk" 248 yX8_lay ∈ gTb := gTb_of 693 (by decide +kernel) (by decide +kernel)
theorem m_694 : Cond.instanceMethod yX8_lay ∈ gTb := gTb_of 694 (by decide +kernel) (by decide +kernel)
theorem m_695 : Cond.selects "PoorDesk$Sheet" yX8_lay yX8_lay ∈ gTb := gTb_of 695 (by decide +kernel) (by decide +kernel)
theorem m_696 : Cond.code yX8_lay cX8_lay 3 none ∈ gTb := gTb_of 696 (by decide +kernel) (by decide +kernel)
theorem m_697 : Cond.methodLink "PoorDesk$Sheet" 22 yJ7_fill_53178 ∈ gTb := gTb_of 697 (by decide +kernel) (by decide +kernel)
theorem m_698 : Cond.methodLink "PoorDeskLaw" 132 yX9_put ∈ gTb := gTb_of 698 (by decide +kernel) (by decide +kernel)
theorem m_699 : Cond.instanceMethod yX9_put ∈ gTb := gTb_of 699 (by decide +kernel) (by decide +kernel)
theorem m_700 : Cond.selects "PoorDesk" yX9_put yX9_put ∈ gTb := gTb_of 700 (by decide +kernel) (by decide +kernel)
theorem m_701 : Cond.code yX9_put cX9_put 4 (some .int) ∈ gTb := gTb_of 701 (by decide +kernel) (by decide +kernel)
theorem m_702 : Cond.methodLink "PoorDesk" 255 yX8_isMissing ∈ gTb := gTb_of 702 (by decide +kernel) (by decide +kernel)
theorem m_703 : Cond.instanceMethod yX8_isMissing ∈ gTb := gTb_of 703 (by decide +kernel) (by decide +kernel)
theorem m_704 : Cond.selects "PoorDesk$Sheet" yX8_isMissing yX8_isMissing ∈ gTb := gTb_of 704 (by decide +kernel) (by decide +kernel)
theorem m_705 : Cond.code yX8_isMissing cX8_isMissing 1 (some .boolean) ∈ gTb := gTb_of 705 (by decide +kernel) (by decide +kernel)
theorem m_706 : Cond.methodLink "PoorDesk" 259 yX8_write ∈ gTb := gTb_of 706 (by decide +kernel) (by decide +kernel)
theorem m_707 : Cond.instanceMethod yX8_write ∈ gTb := gTb_of 707 (by decide +kernel) (by decide +kernel)
theorem m_708 : Cond.selects "PoorDesk$Sheet" yX8_write yX8_write ∈ gTb := gTb_of 708 (by decide +kernel) (by decide +kernel)
theorem m_709 : Cond.code yX8_write cX8_write 4 none ∈ gTb := gTb_of 709 (by decide +kernel) (by decide +kernel)
theorem m_710 : Cond.methodLink "PoorDeskLaw" 136 yX9_copy ∈ gTb := gTb_of 710 (by decide +kernel) (by decide +kernel)
theorem m_711 : Cond.instanceMethod yX9_copy ∈ gTb := gTb_of 711 (by decide +kernel) (by decide +kernel)
theorem m_712 : Cond.selects "PoorDesk" yX9_copy yX9_copy ∈ gTb := gTb_of 712 (by decide +kernel) (by decide +kernel)
theorem m_713 : Cond.code yX9_copy cX9_copy 6 (some .int) ∈ gTb := gTb_of 713 (by decide +kernel) (by decide +kernel)
theorem m_714 : Cond.methodLink "PoorDesk" 265 yX8_hasRun ∈ gTb := gTb_of 714 (by decide +kernel) (by decide +kernel)
theorem m_715 : Cond.instanceMethod yX8_hasRun ∈ gTb := gTb_of 715 (by decide +kernel) (by decide +kernel)
theorem m_716 : Cond.selects "PoorDesk$Sheet" yX8_hasRun yX8_hasRun ∈ gTb := gTb_of 716 (by decide +kernel) (by decide +kernel)
theorem m_717 : Cond.code yX8_hasRun cX8_hasRun 3 (some .boolean) ∈ gTb := gTb_of 717 (by decide +kernel) (by decide +kernel)
theorem m_718 : Cond.methodLink "PoorDesk" 271 arraycopyName ∈ gTb := gTb_of 718 (by decide +kernel) (by decide +kernel)
theorem m_719 : Cond.static arraycopyName ∈ gTb := gTb_of 719 (by decide +kernel) (by decide +kernel)
theorem m_720 : Cond.native arraycopyName ∈ gTb := gTb_of 720 (by decide +kernel) (by decide +kernel)
theorem m_721 : Cond.methodLink "PoorDeskLaw" 141 yX9_read ∈ gTb := gTb_of 721 (by decide +kernel) (by decide +kernel)
theorem m_722 : Cond.instanceMethod yX9_read ∈ gTb := gTb_of 722 (by decide +kernel) (by decide +kernel)
theorem m_723 : Cond.selects "PoorDesk" yX9_read yX9_read ∈ gTb := gTb_of 723 (by decide +kernel) (by decide +kernel)
theorem m_724 : Cond.code yX9_read cX9_read 2 (some .int) ∈ gTb := gTb_of 724 (by decide +kernel) (by decide +kernel)
theorem m_725 : Cond.methodLink "PoorDesk" 277 yX6_readPrices ∈ gTb := gTb_of 725 (by decide +kernel) (by decide +kernel)
theorem m_726 : Cond.instanceMethod yX6_readPrices ∈ gTb := gTb_of 726 (by decide +kernel) (by decide +kernel)
theorem m_727 : Cond.selects "PoorDesk$Poor" yX6_readPrices yX6_readPrices ∈ gTb := gTb_of 727 (by decide +kernel) (by decide +kernel)
theorem m_728 : Cond.code yX6_readPrices cX6_readPrices 6 (some .int) ∈ gTb := gTb_of 728 (by decide +kernel) (by decide +kernel)
theorem m_729 : Cond.methodLink "PoorDesk$Poor" 66 Lib.Math.min.name ∈ gTb := gTb_of 729 (by decide +kernel) (by decide +kernel)
theorem m_730 : Cond.static Lib.Math.min.name ∈ gTb := gTb_of 730 (by decide +kernel) (by decide +kernel)
theorem m_731 : Cond.code Lib.Math.min.name Lib.Math.min.code 2 (some .int) ∈ gTb := gTb_of 731 (by decide +kernel) (by decide +kernel)
theorem m_733 : Cond.methodLink "PoorDeskLaw" 145 yX9_keep ∈ gTb := gTb_of 733 (by decide +kernel) (by decide +kernel)
theorem m_734 : Cond.instanceMethod yX9_keep ∈ gTb := gTb_of 734 (by decide +kernel) (by decide +kernel)
theorem m_735 : Cond.selects "PoorDesk" yX9_keep yX9_keep ∈ gTb := gTb_of 735 (by decide +kernel) (by decide +kernel)
theorem m_736 : Cond.code yX9_keep cX9_keep 1 (some .int) ∈ gTb := gTb_of 736 (by decide +kernel) (by decide +kernel)
theorem m_737 : Cond.methodLink "PoorDesk" 281 yX0_become ∈ gTb := gTb_of 737 (by decide +kernel) (by decide +kernel)
theorem m_738 : Cond.instanceMethod yX0_become ∈ gTb := gTb_of 738 (by decide +kernel) (by decide +kernel)
theorem m_739 : Cond.selects "PoorDesk$Book" yX0_become yX0_become ∈ gTb := gTb_of 739 (by decide +kernel) (by decide +kernel)
theorem m_740 : Cond.code yX0_become cX0_become 2 none ∈ gTb := gTb_of 740 (by decide +kernel) (by decide +kernel)
theorem m_741 : Cond.methodLink "PoorDesk$Book" 55 yX4_become ∈ gTb := gTb_of 741 (by decide +kernel) (by decide +kernel)
theorem m_742 : Cond.instanceMethod yX4_become ∈ gTb := gTb_of 742 (by decide +kernel) (by decide +kernel)
theorem m_743 : Cond.selects "PoorDesk$Parishes" yX4_become yX4_become ∈ gTb := gTb_of 743 (by decide +kernel) (by decide +kernel)
theorem m_744 : Cond.code yX4_become cX4_become 3 none ∈ gTb := gTb_of 744 (by decide +kernel) (by decide +kernel)
theorem m_746 : Cond.static yX9_copyRow ∈ gTb := gTb_of 746 (by decide +kernel) (by decide +kernel)
theorem m_747 : Cond.code yX9_copyRow cX9_copyRow 2 none ∈ gTb := gTb_of 747 (by decide +kernel) (by decide +kernel)
theorem m_748 : Cond.methodLink "PoorDesk" 284 Lib.Math.min.name ∈ gTb := gTb_of 748 (by decide +kernel) (by decide +kernel)
theorem m_749 : Cond.methodLink "PoorDesk$Book" 59 yX5_become ∈ gTb := gTb_of 749 (by decide +kernel) (by decide +kernel)
theorem m_750 : Cond.instanceMethod yX5_become ∈ gTb := gTb_of 750 (by decide +kernel) (by decide +kernel)
theorem m_751 : Cond.selects "PoorDesk$Persons" yX5_become yX5_become ∈ gTb := gTb_of 751 (by decide +kernel) (by decide +kernel)
theorem m_752 : Cond.code yX5_become cX5_become 2 none ∈ gTb := gTb_of 752 (by decide +kernel) (by decide +kernel)
theorem m_754 : Cond.methodLink "PoorDesk$Book" 62 yX1_become ∈ gTb := gTb_of 754 (by decide +kernel) (by decide +kernel)
theorem m_755 : Cond.instanceMethod yX1_become ∈ gTb := gTb_of 755 (by decide +kernel) (by decide +kernel)
theorem m_756 : Cond.selects "PoorDesk$Facts" yX1_become yX1_become ∈ gTb := gTb_of 756 (by decide +kernel) (by decide +kernel)
theorem m_757 : Cond.code yX1_become cX1_become 2 none ∈ gTb := gTb_of 757 (by decide +kernel) (by decide +kernel)
theorem m_759 : Cond.methodLink "PoorDesk$Book" 65 yX2_become ∈ gTb := gTb_of 759 (by decide +kernel) (by decide +kernel)
theorem m_760 : Cond.instanceMethod yX2_become ∈ gTb := gTb_of 760 (by decide +kernel) (by decide +kernel)
theorem m_761 : Cond.selects "PoorDesk$Laws" yX2_become yX2_become ∈ gTb := gTb_of 761 (by decide +kernel) (by decide +kernel)
theorem m_762 : Cond.code yX2_become cX2_become 2 none ∈ gTb := gTb_of 762 (by decide +kernel) (by decide +kernel)
theorem m_764 : Cond.methodLink "PoorDesk$Book" 68 yX3_become ∈ gTb := gTb_of 764 (by decide +kernel) (by decide +kernel)
theorem m_765 : Cond.instanceMethod yX3_become ∈ gTb := gTb_of 765 (by decide +kernel) (by decide +kernel)
theorem m_766 : Cond.selects "PoorDesk$Orders" yX3_become yX3_become ∈ gTb := gTb_of 766 (by decide +kernel) (by decide +kernel)
theorem m_767 : Cond.code yX3_become cX3_become 2 none ∈ gTb := gTb_of 767 (by decide +kernel) (by decide +kernel)
theorem m_769 : Cond.methodLink "PoorDesk$Book" 71 yX6_become ∈ gTb := gTb_of 769 (by decide +kernel) (by decide +kernel)
theorem m_770 : Cond.instanceMethod yX6_become ∈ gTb := gTb_of 770 (by decide +kernel) (by decide +kernel)
theorem m_771 : Cond.selects "PoorDesk$Poor" yX6_become yX6_become ∈ gTb := gTb_of 771 (by decide +kernel) (by decide +kernel)
theorem m_772 : Cond.code yX6_become cX6_become 2 none ∈ gTb := gTb_of 772 (by decide +kernel) (by decide +kernel)
theorem m_774 : Cond.methodLink "PoorDeskLaw" 149 yX9_back ∈ gTb := gTb_of 774 (by decide +kernel) (by decide +kernel)
theorem m_775 : Cond.instanceMethod yX9_back ∈ gTb := gTb_of 775 (by decide +kernel) (by decide +kernel)
theorem m_776 : Cond.selects "PoorDesk" yX9_back yX9_back ∈ gTb := gTb_of 776 (by decide +kernel) (by decide +kernel)
theorem m_777 : Cond.code yX9_back cX9_back 1 (some .int) ∈ gTb := gTb_of 777 (by decide +kernel) (by decide +kernel)
theorem m_778 : Cond.methodLink "PoorDeskLaw" 153 yX9_told ∈ gTb := gTb_of 778 (by decide +kernel) (by decide +kernel)
theorem m_779 : Cond.instanceMethod yX9_told ∈ gTb := gTb_of 779 (by decide +kernel) (by decide +kernel)
theorem m_780 : Cond.selects "PoorDesk" yX9_told yX9_told ∈ gTb := gTb_of 780 (by decide +kernel) (by decide +kernel)
theorem m_781 : Cond.code yX9_told cX9_told 2 (some .int) ∈ gTb := gTb_of 781 (by decide +kernel) (by decide +kernel)
theorem m_788 : Cond.fieldLink "PoorDeskModel" 9 "PoorDeskModel" "now" "[I" ∈ gTb := gTb_of 788 (by decide +kernel) (by decide +kernel)
theorem m_789 : Cond.fieldLink "PoorDeskModel" 13 "PoorDeskModel" "kept" "[I" ∈ gTb := gTb_of 789 (by decide +kernel) (by decide +kernel)
theorem m_790 : Cond.fieldLink "PoorDeskModel" 130 "PoorDeskModel" "isKept" "Z" ∈ gTb := gTb_of 790 (by decide +kernel) (by decide +kernel)
theorem m_791 : Cond.fieldLink "PoorDeskModel" 37 "PoorDeskModel" "findings" "I" ∈ gTb := gTb_of 791 (by decide +kernel) (by decide +kernel)
theorem m_792 : Cond.fieldLink "PoorDeskModel" 16 "PoorDeskModel" "bits" "[I" ∈ gTb := gTb_of 792 (by decide +kernel) (by decide +kernel)
theorem m_793 : Cond.fieldLink "PoorDeskModel" 19 "PoorDeskModel" "sizes" "[I" ∈ gTb := gTb_of 793 (by decide +kernel) (by decide +kernel)
theorem m_794 : Cond.fieldLink "PoorDeskModel" 22 "PoorDeskModel" "sheets" "[I" ∈ gTb := gTb_of 794 (by decide +kernel) (by decide +kernel)
theorem m_795 : Cond.fieldLink "PoorDeskModel" 79 "PoorDeskModel" "notSo" "I" ∈ gTb := gTb_of 795 (by decide +kernel) (by decide +kernel)
theorem m_796 : Cond.fieldLink "PoorDeskModel" 25 "PoorDeskModel" "chain" "[I" ∈ gTb := gTb_of 796 (by decide +kernel) (by decide +kernel)
theorem m_797 : Cond.fieldLink "PoorDeskModel" 86 "PoorDeskModel" "teller" "I" ∈ gTb := gTb_of 797 (by decide +kernel) (by decide +kernel)
theorem m_798 : Cond.fieldLink "PoorDeskModel" 28 "PoorDeskModel" "doubted" "[I" ∈ gTb := gTb_of 798 (by decide +kernel) (by decide +kernel)
theorem m_799 : Cond.fieldLink "PoorDeskModel" 31 "PoorDeskModel" "outcome" "[I" ∈ gTb := gTb_of 799 (by decide +kernel) (by decide +kernel)
theorem m_800 : Cond.fieldLink "PoorDeskModel" 34 "PoorDeskModel" "carried" "[I" ∈ gTb := gTb_of 800 (by decide +kernel) (by decide +kernel)
theorem m_828 : Cond.methodLink "PoorDeskLaw" 17 yX10_parish ∈ gTb := gTb_of 828 (by decide +kernel) (by decide +kernel)
theorem m_829 : Cond.instanceMethod yX10_parish ∈ gTb := gTb_of 829 (by decide +kernel) (by decide +kernel)
theorem m_830 : Cond.selects "PoorDeskModel" yX10_parish yX10_parish ∈ gTb := gTb_of 830 (by decide +kernel) (by decide +kernel)
theorem m_831 : Cond.code yX10_parish cX10_parish 3 (some .int) ∈ gTb := gTb_of 831 (by decide +kernel) (by decide +kernel)
theorem m_832 : Cond.methodLink "PoorDeskModel" 41 yX10_within ∈ gTb := gTb_of 832 (by decide +kernel) (by decide +kernel)
theorem m_833 : Cond.static yX10_within ∈ gTb := gTb_of 833 (by decide +kernel) (by decide +kernel)
theorem m_834 : Cond.code yX10_within cX10_within 3 (some .boolean) ∈ gTb := gTb_of 834 (by decide +kernel) (by decide +kernel)
theorem m_835 : Cond.constant "PoorDeskModel" 45 (-100001) ∈ gTb := gTb_of 835 (by decide +kernel) (by decide +kernel)
theorem m_836 : Cond.methodLink "PoorDeskModel" 46 yX10_finding ∈ gTb := gTb_of 836 (by decide +kernel) (by decide +kernel)
theorem m_838 : Cond.instanceMethod yX10_finding ∈ gTb := gTb_of 838 (by decide +kernel) (by decide +kernel)
theorem m_839 : Cond.code yX10_finding cX10_finding 2 (some .int) ∈ gTb := gTb_of 839 (by decide +kernel) (by decide +kernel)
theorem m_840 : Cond.constant "PoorDeskModel" 50 (-100005) ∈ gTb := gTb_of 840 (by decide +kernel) (by decide +kernel)
theorem m_841 : Cond.methodLink "PoorDeskLaw" 22 yX10_miles ∈ gTb := gTb_of 841 (by decide +kernel) (by decide +kernel)
theorem m_842 : Cond.instanceMethod yX10_miles ∈ gTb := gTb_of 842 (by decide +kernel) (by decide +kernel)
theorem m_843 : Cond.selects "PoorDeskModel" yX10_miles yX10_miles ∈ gTb := gTb_of 843 (by decide +kernel) (by decide +kernel)
theorem m_844 : Cond.code yX10_miles cX10_miles 5 (some .int) ∈ gTb := gTb_of 844 (by decide +kernel) (by decide +kernel)
theorem m_845 : Cond.methodLink "PoorDeskModel" 51 yX10_isParish ∈ gTb := gTb_of 845 (by decide +kernel) (by decide +kernel)
theorem m_847 : Cond.instanceMethod yX10_isParish ∈ gTb := gTb_of 847 (by decide +kernel) (by decide +kernel)
theorem m_848 : Cond.code yX10_isParish cX10_isParish 2 (some .boolean) ∈ gTb := gTb_of 848 (by decide +kernel) (by decide +kernel)
theorem m_849 : Cond.constant "PoorDeskModel" 55 (-100003) ∈ gTb := gTb_of 849 (by decide +kernel) (by decide +kernel)
theorem m_850 : Cond.methodLink "PoorDeskLaw" 26 yX10_person ∈ gTb := gTb_of 850 (by decide +kernel) (by decide +kernel)
theorem m_851 : Cond.instanceMethod yX10_person ∈ gTb := gTb_of 851 (by decide +kernel) (by decide +kernel)
theorem m_852 : Cond.selects "PoorDeskModel" yX10_person yX10_person ∈ gTb := gTb_of 852 (by decide +kernel) (by decide +kernel)
theorem m_853 : Cond.code yX10_person cX10_person 5 (some .int) ∈ gTb := gTb_of 853 (by decide +kernel) (by decide +kernel)
theorem m_854 : Cond.methodLink "PoorDeskModel" 56 yX10_isDay ∈ gTb := gTb_of 854 (by decide +kernel) (by decide +kernel)
theorem m_855 : Cond.static yX10_isDay ∈ gTb := gTb_of 855 (by decide +kernel) (by decide +kernel)
theorem m_856 : Cond.code yX10_isDay cX10_isDay 1 (some .boolean) ∈ gTb := gTb_of 856 (by decide +kernel) (by decide +kernel)
theorem m_857 : Cond.methodLink "PoorDeskLaw" 31 yX10_as ∈ gTb := gTb_of 857 (by decide +kernel) (by decide +kernel)
theorem m_858 : Cond.instanceMethod yX10_as ∈ gTb := gTb_of 858 (by decide +kernel) (by decide +kernel)
theorem m_859 : Cond.selects "PoorDeskModel" yX10_as yX10_as ∈ gTb := gTb_of 859 (by decide +kernel) (by decide +kernel)
theorem m_860 : Cond.code yX10_as cX10_as 4 (some .int) ∈ gTb := gTb_of 860 (by decide +kernel) (by decide +kernel)
theorem m_861 : Cond.methodLink "PoorDeskModel" 59 yX10_isPerson ∈ gTb := gTb_of 861 (by decide +kernel) (by decide +kernel)
theorem m_863 : Cond.instanceMethod yX10_isPerson ∈ gTb := gTb_of 863 (by decide +kernel) (by decide +kernel)
theorem m_864 : Cond.code yX10_isPerson cX10_isPerson 2 (some .boolean) ∈ gTb := gTb_of 864 (by decide +kernel) (by decide +kernel)
theorem m_865 : Cond.constant "PoorDeskModel" 62 (-100004) ∈ gTb := gTb_of 865 (by decide +kernel) (by decide +kernel)
theorem m_866 : Cond.methodLink "PoorDeskLaw" 35 yX10_husband ∈ gTb := gTb_of 866 (by decide +kernel) (by decide +kernel)
theorem m_867 : Cond.instanceMethod yX10_husband ∈ gTb := gTb_of 867 (by decide +kernel) (by decide +kernel)
theorem m_868 : Cond.selects "PoorDeskModel" yX10_husband yX10_husband ∈ gTb := gTb_of 868 (by decide +kernel) (by decide +kernel)
theorem m_869 : Cond.code yX10_husband cX10_husband 4 (some .int) ∈ gTb := gTb_of 869 (by decide +kernel) (by decide +kernel)
theorem m_870 : Cond.methodLink "PoorDeskModel" 64 yX10_link ∈ gTb := gTb_of 870 (by decide +kernel) (by decide +kernel)
theorem m_872 : Cond.instanceMethod yX10_link ∈ gTb := gTb_of 872 (by decide +kernel) (by decide +kernel)
theorem m_873 : Cond.code yX10_link cX10_link 5 (some .int) ∈ gTb := gTb_of 873 (by decide +kernel) (by decide +kernel)
theorem m_874 : Cond.constant "PoorDeskModel" 63 (-100007) ∈ gTb := gTb_of 874 (by decide +kernel) (by decide +kernel)
theorem m_875 : Cond.methodLink "PoorDeskLaw" 39 yX10_father ∈ gTb := gTb_of 875 (by decide +kernel) (by decide +kernel)
theorem m_876 : Cond.instanceMethod yX10_father ∈ gTb := gTb_of 876 (by decide +kernel) (by decide +kernel)
theorem m_877 : Cond.selects "PoorDeskModel" yX10_father yX10_father ∈ gTb := gTb_of 877 (by decide +kernel) (by decide +kernel)
theorem m_878 : Cond.code yX10_father cX10_father 3 (some .int) ∈ gTb := gTb_of 878 (by decide +kernel) (by decide +kernel)
theorem m_879 : Cond.methodLink "PoorDeskLaw" 44 yX10_fact ∈ gTb := gTb_of 879 (by decide +kernel) (by decide +kernel)
theorem m_880 : Cond.instanceMethod yX10_fact ∈ gTb := gTb_of 880 (by decide +kernel) (by decide +kernel)
theorem m_881 : Cond.selects "PoorDeskModel" yX10_fact yX10_fact ∈ gTb := gTb_of 881 (by decide +kernel) (by decide +kernel)
theorem m_882 : Cond.code yX10_fact cX10_fact 10 (some .int) ∈ gTb := gTb_of 882 (by decide +kernel) (by decide +kernel)
theorem m_883 : Cond.methodLink "PoorDeskLaw" 49 yX10_doubt ∈ gTb := gTb_of 883 (by decide +kernel) (by decide +kernel)
theorem m_884 : Cond.instanceMethod yX10_doubt ∈ gTb := gTb_of 884 (by decide +kernel) (by decide +kernel)
theorem m_885 : Cond.selects "PoorDeskModel" yX10_doubt yX10_doubt ∈ gTb := gTb_of 885 (by decide +kernel) (by decide +kernel)
theorem m_886 : Cond.code yX10_doubt cX10_doubt 4 (some .int) ∈ gTb := gTb_of 886 (by decide +kernel) (by decide +kernel)
theorem m_887 : Cond.methodLink "PoorDeskModel" 68 yX10_doubts ∈ gTb := gTb_of 887 (by decide +kernel) (by decide +kernel)
theorem m_889 : Cond.instanceMethod yX10_doubts ∈ gTb := gTb_of 889 (by decide +kernel) (by decide +kernel)
theorem m_890 : Cond.code yX10_doubts cX10_doubts 3 (some .int) ∈ gTb := gTb_of 890 (by decide +kernel) (by decide +kernel)
theorem m_891 : Cond.methodLink "PoorDeskLaw" 54 yX10_forget ∈ gTb := gTb_of 891 (by decide +kernel) (by decide +kernel)
theorem m_892 : Cond.instanceMethod yX10_forget ∈ gTb := gTb_of 892 (by decide +kernel) (by decide +kernel)
theorem m_893 : Cond.selects "PoorDeskModel" yX10_forget yX10_forget ∈ gTb := gTb_of 893 (by decide +kernel) (by decide +kernel)
theorem m_894 : Cond.code yX10_forget cX10_forget 1 (some .int) ∈ gTb := gTb_of 894 (by decide +kernel) (by decide +kernel)
theorem m_895 : Cond.constant "PoorDeskModel" 72 (-100006) ∈ gTb := gTb_of 895 (by decide +kernel) (by decide +kernel)
theorem m_896 : Cond.methodLink "PoorDeskLaw" 59 yX10_law ∈ gTb := gTb_of 896 (by decide +kernel) (by decide +kernel)
theorem m_897 : Cond.instanceMethod yX10_law ∈ gTb := gTb_of 897 (by decide +kernel) (by decide +kernel)
theorem m_898 : Cond.selects "PoorDeskModel" yX10_law yX10_law ∈ gTb := gTb_of 898 (by decide +kernel) (by decide +kernel)
theorem m_899 : Cond.code yX10_law cX10_law 7 (some .int) ∈ gTb := gTb_of 899 (by decide +kernel) (by decide +kernel)
theorem m_900 : Cond.methodLink "PoorDeskLaw" 63 yX10_ends ∈ gTb := gTb_of 900 (by decide +kernel) (by decide +kernel)
theorem m_901 : Cond.instanceMethod yX10_ends ∈ gTb := gTb_of 901 (by decide +kernel) (by decide +kernel)
theorem m_902 : Cond.selects "PoorDeskModel" yX10_ends yX10_ends ∈ gTb := gTb_of 902 (by decide +kernel) (by decide +kernel)
theorem m_903 : Cond.code yX10_ends cX10_ends 4 (some .int) ∈ gTb := gTb_of 903 (by decide +kernel) (by decide +kernel)
theorem m_904 : Cond.methodLink "PoorDeskLaw" 67 yX10_own ∈ gTb := gTb_of 904 (by decide +kernel) (by decide +kernel)
theorem m_905 : Cond.instanceMethod yX10_own ∈ gTb := gTb_of 905 (by decide +kernel) (by decide +kernel)
theorem m_906 : Cond.selects "PoorDeskModel" yX10_own yX10_own ∈ gTb := gTb_of 906 (by decide +kernel) (by decide +kernel)
theorem m_907 : Cond.code yX10_own cX10_own 5 (some .int) ∈ gTb := gTb_of 907 (by decide +kernel) (by decide +kernel)
theorem m_908 : Cond.methodLink "PoorDeskModel" 92 yX10_canAsk ∈ gTb := gTb_of 908 (by decide +kernel) (by decide +kernel)
theorem m_910 : Cond.instanceMethod yX10_canAsk ∈ gTb := gTb_of 910 (by decide +kernel) (by decide +kernel)
theorem m_911 : Cond.code yX10_canAsk cX10_canAsk 4 (some .boolean) ∈ gTb := gTb_of 911 (by decide +kernel) (by decide +kernel)
theorem m_912 : Cond.methodLink "PoorDeskModel" 89 yX10_ownOf ∈ gTb := gTb_of 912 (by decide +kernel) (by decide +kernel)
theorem m_914 : Cond.instanceMethod yX10_ownOf ∈ gTb := gTb_of 914 (by decide +kernel) (by decide +kernel)
theorem m_915 : Cond.code yX10_ownOf cX10_ownOf 11 (some .int) ∈ gTb := gTb_of 915 (by decide +kernel) (by decide +kernel)
theorem m_916 : Cond.methodLink "PoorDeskModel" 76 yX10_hasLaw ∈ gTb := gTb_of 916 (by decide +kernel) (by decide +kernel)
theorem m_918 : Cond.instanceMethod yX10_hasLaw ∈ gTb := gTb_of 918 (by decide +kernel) (by decide +kernel)
theorem m_919 : Cond.code yX10_hasLaw cX10_hasLaw 6 (some .boolean) ∈ gTb := gTb_of 919 (by decide +kernel) (by decide +kernel)
theorem m_920 : Cond.methodLink "PoorDeskModel" 73 yX10_isForce ∈ gTb := gTb_of 920 (by decide +kernel) (by decide +kernel)
theorem m_922 : Cond.instanceMethod yX10_isForce ∈ gTb := gTb_of 922 (by decide +kernel) (by decide +kernel)
theorem m_923 : Cond.code yX10_isForce cX10_isForce 4 (some .boolean) ∈ gTb := gTb_of 923 (by decide +kernel) (by decide +kernel)
theorem m_924 : Cond.methodLink "PoorDeskLaw" 71 yX10_settlement ∈ gTb := gTb_of 924 (by decide +kernel) (by decide +kernel)
theorem m_925 : Cond.instanceMethod yX10_settlement ∈ gTb := gTb_of 925 (by decide +kernel) (by decide +kernel)
theorem m_926 : Cond.selects "PoorDeskModel" yX10_settlement yX10_settlement ∈ gTb := gTb_of 926 (by decide +kernel) (by decide +kernel)
theorem m_927 : Cond.code yX10_settlement cX10_settlement 5 (some .int) ∈ gTb := gTb_of 927 (by decide +kernel) (by decide +kernel)
theorem m_928 : Cond.methodLink "PoorDeskModel" 95 yX10_settlementOf ∈ gTb := gTb_of 928 (by decide +kernel) (by decide +kernel)
theorem m_930 : Cond.instanceMethod yX10_settlementOf ∈ gTb := gTb_of 930 (by decide +kernel) (by decide +kernel)
theorem m_931 : Cond.code yX10_settlementOf cX10_settlementOf 7 (some .int) ∈ gTb := gTb_of 931 (by decide +kernel) (by decide +kernel)
theorem m_932 : Cond.methodLink "PoorDeskModel" 82 yX10_goesBy ∈ gTb := gTb_of 932 (by decide +kernel) (by decide +kernel)
theorem m_934 : Cond.instanceMethod yX10_goesBy ∈ gTb := gTb_of 934 (by decide +kernel) (by decide +kernel)
theorem m_935 : Cond.code yX10_goesBy cX10_goesBy 6 (some .boolean) ∈ gTb := gTb_of 935 (by decide +kernel) (by decide +kernel)
theorem m_936 : Cond.methodLink "PoorDeskLaw" 75 yX10_through ∈ gTb := gTb_of 936 (by decide +kernel) (by decide +kernel)
theorem m_937 : Cond.instanceMethod yX10_through ∈ gTb := gTb_of 937 (by decide +kernel) (by decide +kernel)
theorem m_938 : Cond.selects "PoorDeskModel" yX10_through yX10_through ∈ gTb := gTb_of 938 (by decide +kernel) (by decide +kernel)
theorem m_939 : Cond.code yX10_through cX10_through 5 (some .int) ∈ gTb := gTb_of 939 (by decide +kernel) (by decide +kernel)
theorem m_940 : Cond.methodLink "PoorDeskLaw" 79 yX10_could ∈ gTb := gTb_of 940 (by decide +kernel) (by decide +kernel)
theorem m_941 : Cond.instanceMethod yX10_could ∈ gTb := gTb_of 941 (by decide +kernel) (by decide +kernel)
theorem m_942 : Cond.selects "PoorDeskModel" yX10_could yX10_could ∈ gTb := gTb_of 942 (by decide +kernel) (by decide +kernel)
theorem m_943 : Cond.code yX10_could cX10_could 7 (some .int) ∈ gTb := gTb_of 943 (by decide +kernel) (by decide +kernel)
theorem m_944 : Cond.methodLink "PoorDeskModel" 98 yX10_findOutcomes ∈ gTb := gTb_of 944 (by decide +kernel) (by decide +kernel)
theorem m_946 : Cond.instanceMethod yX10_findOutcomes ∈ gTb := gTb_of 946 (by decide +kernel) (by decide +kernel)
theorem m_947 : Cond.code yX10_findOutcomes cX10_findOutcomes 7 (some .int) ∈ gTb := gTb_of 947 (by decide +kernel) (by decide +kernel)
theorem m_948 : Cond.methodLink "PoorDeskLaw" 83 yX10_question ∈ gTb := gTb_of 948 (by decide +kernel) (by decide +kernel)
theorem m_949 : Cond.instanceMethod yX10_question ∈ gTb := gTb_of 949 (by decide +kernel) (by decide +kernel)
theorem m_950 : Cond.selects "PoorDeskModel" yX10_question yX10_question ∈ gTb := gTb_of 950 (by decide +kernel) (by decide +kernel)
theorem m_951 : Cond.code yX10_question cX10_question 11 (some .int) ∈ gTb := gTb_of 951 (by decide +kernel) (by decide +kernel)
theorem m_952 : Cond.methodLink "PoorDeskModel" 101 yX10_many ∈ gTb := gTb_of 952 (by decide +kernel) (by decide +kernel)
theorem m_953 : Cond.static yX10_many ∈ gTb := gTb_of 953 (by decide +kernel) (by decide +kernel)
theorem m_954 : Cond.code yX10_many cX10_many 3 (some .int) ∈ gTb := gTb_of 954 (by decide +kernel) (by decide +kernel)
theorem m_955 : Cond.methodLink "PoorDeskModel" 104 Lib.Math.max.name ∈ gTb := gTb_of 955 (by decide +kernel) (by decide +kernel)
theorem m_956 : Cond.methodLink "PoorDeskLaw" 87 yX10_order ∈ gTb := gTb_of 956 (by decide +kernel) (by decide +kernel)
theorem m_957 : Cond.instanceMethod yX10_order ∈ gTb := gTb_of 957 (by decide +kernel) (by decide +kernel)
theorem m_958 : Cond.selects "PoorDeskModel" yX10_order yX10_order ∈ gTb := gTb_of 958 (by decide +kernel) (by decide +kernel)
theorem m_959 : Cond.code yX10_order cX10_order 6 (some .int) ∈ gTb := gTb_of 959 (by decide +kernel) (by decide +kernel)
theorem m_960 : Cond.methodLink "PoorDeskLaw" 91 yX10_appeal ∈ gTb := gTb_of 960 (by decide +kernel) (by decide +kernel)
theorem m_961 : Cond.instanceMethod yX10_appeal ∈ gTb := gTb_of 961 (by decide +kernel) (by decide +kernel)
theorem m_962 : Cond.selects "PoorDeskModel" yX10_appeal yX10_appeal ∈ gTb := gTb_of 962 (by decide +kernel) (by decide +kernel)
theorem m_963 : Cond.code yX10_appeal cX10_appeal 5 (some .int) ∈ gTb := gTb_of 963 (by decide +kernel) (by decide +kernel)
theorem m_964 : Cond.methodLink "PoorDeskModel" 110 yX10_isOrder ∈ gTb := gTb_of 964 (by decide +kernel) (by decide +kernel)
theorem m_966 : Cond.instanceMethod yX10_isOrder ∈ gTb := gTb_of 966 (by decide +kernel) (by decide +kernel)
theorem m_967 : Cond.code yX10_isOrder cX10_isOrder 2 (some .boolean) ∈ gTb := gTb_of 967 (by decide +kernel) (by decide +kernel)
theorem m_968 : Cond.constant "PoorDeskModel" 113 (-100008) ∈ gTb := gTb_of 968 (by decide +kernel) (by decide +kernel)
theorem m_969 : Cond.methodLink "PoorDeskLaw" 95 yX10_ordered ∈ gTb := gTb_of 969 (by decide +kernel) (by decide +kernel)
theorem m_970 : Cond.instanceMethod yX10_ordered ∈ gTb := gTb_of 970 (by decide +kernel) (by decide +kernel)
theorem m_971 : Cond.selects "PoorDeskModel" yX10_ordered yX10_ordered ∈ gTb := gTb_of 971 (by decide +kernel) (by decide +kernel)
theorem m_972 : Cond.code yX10_ordered cX10_ordered 3 (some .int) ∈ gTb := gTb_of 972 (by decide +kernel) (by decide +kernel)
theorem m_973 : Cond.methodLink "PoorDeskLaw" 99 yX10_costs ∈ gTb := gTb_of 973 (by decide +kernel) (by decide +kernel)
theorem m_974 : Cond.instanceMethod yX10_costs ∈ gTb := gTb_of 974 (by decide +kernel) (by decide +kernel)
theorem m_975 : Cond.selects "PoorDeskModel" yX10_costs yX10_costs ∈ gTb := gTb_of 975 (by decide +kernel) (by decide +kernel)
theorem m_976 : Cond.code yX10_costs cX10_costs 5 (some .int) ∈ gTb := gTb_of 976 (by decide +kernel) (by decide +kernel)
theorem m_977 : Cond.methodLink "PoorDeskLaw" 103 yX10_set ∈ gTb := gTb_of 977 (by decide +kernel) (by decide +kernel)
theorem m_978 : Cond.instanceMethod yX10_set ∈ gTb := gTb_of 978 (by decide +kernel) (by decide +kernel)
theorem m_979 : Cond.selects "PoorDeskModel" yX10_set yX10_set ∈ gTb := gTb_of 979 (by decide +kernel) (by decide +kernel)
theorem m_980 : Cond.code yX10_set cX10_set 4 (some .int) ∈ gTb := gTb_of 980 (by decide +kernel) (by decide +kernel)
theorem m_981 : Cond.methodLink "PoorDeskLaw" 107 yX10_list ∈ gTb := gTb_of 981 (by decide +kernel) (by decide +kernel)
theorem m_982 : Cond.instanceMethod yX10_list ∈ gTb := gTb_of 982 (by decide +kernel) (by decide +kernel)
theorem m_983 : Cond.selects "PoorDeskModel" yX10_list yX10_list ∈ gTb := gTb_of 983 (by decide +kernel) (by decide +kernel)
theorem m_984 : Cond.code yX10_list cX10_list 5 (some .int) ∈ gTb := gTb_of 984 (by decide +kernel) (by decide +kernel)
theorem m_985 : Cond.methodLink "PoorDeskModel" 114 yX10_isWeek ∈ gTb := gTb_of 985 (by decide +kernel) (by decide +kernel)
theorem m_986 : Cond.static yX10_isWeek ∈ gTb := gTb_of 986 (by decide +kernel) (by decide +kernel)
theorem m_987 : Cond.code yX10_isWeek cX10_isWeek 1 (some .boolean) ∈ gTb := gTb_of 987 (by decide +kernel) (by decide +kernel)
theorem m_988 : Cond.methodLink "PoorDeskLaw" 111 yX10_earns ∈ gTb := gTb_of 988 (by decide +kernel) (by decide +kernel)
theorem m_989 : Cond.instanceMethod yX10_earns ∈ gTb := gTb_of 989 (by decide +kernel) (by decide +kernel)
theorem m_990 : Cond.selects "PoorDeskModel" yX10_earns yX10_earns ∈ gTb := gTb_of 990 (by decide +kernel) (by decide +kernel)
theorem m_991 : Cond.code yX10_earns cX10_earns 4 (some .int) ∈ gTb := gTb_of 991 (by decide +kernel) (by decide +kernel)
theorem m_992 : Cond.methodLink "PoorDeskLaw" 115 yX10_price ∈ gTb := gTb_of 992 (by decide +kernel) (by decide +kernel)
theorem m_993 : Cond.instanceMethod yX10_price ∈ gTb := gTb_of 993 (by decide +kernel) (by decide +kernel)
theorem m_994 : Cond.selects "PoorDeskModel" yX10_price yX10_price ∈ gTb := gTb_of 994 (by decide +kernel) (by decide +kernel)
theorem m_995 : Cond.code yX10_price cX10_price 4 (some .int) ∈ gTb := gTb_of 995 (by decide +kernel) (by decide +kernel)
theorem m_996 : Cond.methodLink "PoorDeskLaw" 119 yX10_relief ∈ gTb := gTb_of 996 (by decide +kernel) (by decide +kernel)
theorem m_997 : Cond.instanceMethod yX10_relief ∈ gTb := gTb_of 997 (by decide +kernel) (by decide +kernel)
theorem m_998 : Cond.selects "PoorDeskModel" yX10_relief yX10_relief ∈ gTb := gTb_of 998 (by decide +kernel) (by decide +kernel)
theorem m_999 : Cond.code yX10_relief cX10_relief 3 (some .int) ∈ gTb := gTb_of 999 (by decide +kernel) (by decide +kernel)
theorem m_1000 : Cond.methodLink "PoorDeskModel" 117 yX10_listOf ∈ gTb := gTb_of 1000 (by decide +kernel) (by decide +kernel)
theorem m_1002 : Cond.instanceMethod yX10_listOf ∈ gTb := gTb_of 1002 (by decide +kernel) (by decide +kernel)
theorem m_1003 : Cond.code yX10_listOf cX10_listOf 3 (some .int) ∈ gTb := gTb_of 1003 (by decide +kernel) (by decide +kernel)
theorem m_1004 : Cond.constant "PoorDeskModel" 123 (-100002) ∈ gTb := gTb_of 1004 (by decide +kernel) (by decide +kernel)
theorem m_1005 : Cond.methodLink "PoorDeskModel" 124 yX10_reliefOf ∈ gTb := gTb_of 1005 (by decide +kernel) (by decide +kernel)
theorem m_1007 : Cond.instanceMethod yX10_reliefOf ∈ gTb := gTb_of 1007 (by decide +kernel) (by decide +kernel)
theorem m_1008 : Cond.code yX10_reliefOf cX10_reliefOf 7 (some .int) ∈ gTb := gTb_of 1008 (by decide +kernel) (by decide +kernel)
theorem m_1009 : Cond.methodLink "PoorDeskModel" 120 yX10_isWifeOf ∈ gTb := gTb_of 1009 (by decide +kernel) (by decide +kernel)
theorem m_1011 : Cond.instanceMethod yX10_isWifeOf ∈ gTb := gTb_of 1011 (by decide +kernel) (by decide +kernel)
theorem m_1012 : Cond.code yX10_isWifeOf cX10_isWifeOf 3 (some .boolean) ∈ gTb := gTb_of 1012 (by decide +kernel) (by decide +kernel)
theorem m_1013 : Cond.methodLink "PoorDeskLaw" 123 yX10_week ∈ gTb := gTb_of 1013 (by decide +kernel) (by decide +kernel)
theorem m_1014 : Cond.instanceMethod yX10_week ∈ gTb := gTb_of 1014 (by decide +kernel) (by decide +kernel)
theorem m_1015 : Cond.selects "PoorDeskModel" yX10_week yX10_week ∈ gTb := gTb_of 1015 (by decide +kernel) (by decide +kernel)
theorem m_1016 : Cond.code yX10_week cX10_week 5 (some .int) ∈ gTb := gTb_of 1016 (by decide +kernel) (by decide +kernel)
theorem m_1017 : Cond.methodLink "PoorDeskLaw" 127 yX10_rate ∈ gTb := gTb_of 1017 (by decide +kernel) (by decide +kernel)
theorem m_1018 : Cond.instanceMethod yX10_rate ∈ gTb := gTb_of 1018 (by decide +kernel) (by decide +kernel)
theorem m_1019 : Cond.selects "PoorDeskModel" yX10_rate yX10_rate ∈ gTb := gTb_of 1019 (by decide +kernel) (by decide +kernel)
theorem m_1020 : Cond.code yX10_rate cX10_rate 9 (some .int) ∈ gTb := gTb_of 1020 (by decide +kernel) (by decide +kernel)
theorem m_1021 : Cond.methodLink "PoorDeskLaw" 131 yX10_sheet ∈ gTb := gTb_of 1021 (by decide +kernel) (by decide +kernel)
theorem m_1022 : Cond.instanceMethod yX10_sheet ∈ gTb := gTb_of 1022 (by decide +kernel) (by decide +kernel)
theorem m_1023 : Cond.selects "PoorDeskModel" yX10_sheet yX10_sheet ∈ gTb := gTb_of 1023 (by decide +kernel) (by decide +kernel)
theorem m_1024 : Cond.code yX10_sheet cX10_sheet 5 (some .int) ∈ gTb := gTb_of 1024 (by decide +kernel) (by decide +kernel)
theorem m_1025 : Cond.methodLink "PoorDeskModel" 127 yX10_isSheet ∈ gTb := gTb_of 1025 (by decide +kernel) (by decide +kernel)
theorem m_1026 : Cond.static yX10_isSheet ∈ gTb := gTb_of 1026 (by decide +kernel) (by decide +kernel)
theorem m_1027 : Cond.code yX10_isSheet cX10_isSheet 1 (some .boolean) ∈ gTb := gTb_of 1027 (by decide +kernel) (by decide +kernel)
theorem m_1028 : Cond.methodLink "PoorDeskLaw" 135 yX10_put ∈ gTb := gTb_of 1028 (by decide +kernel) (by decide +kernel)
theorem m_1029 : Cond.instanceMethod yX10_put ∈ gTb := gTb_of 1029 (by decide +kernel) (by decide +kernel)
theorem m_1030 : Cond.selects "PoorDeskModel" yX10_put yX10_put ∈ gTb := gTb_of 1030 (by decide +kernel) (by decide +kernel)
theorem m_1031 : Cond.code yX10_put cX10_put 5 (some .int) ∈ gTb := gTb_of 1031 (by decide +kernel) (by decide +kernel)
theorem m_1032 : Cond.methodLink "PoorDeskLaw" 140 yX10_copy ∈ gTb := gTb_of 1032 (by decide +kernel) (by decide +kernel)
theorem m_1033 : Cond.instanceMethod yX10_copy ∈ gTb := gTb_of 1033 (by decide +kernel) (by decide +kernel)
theorem m_1034 : Cond.selects "PoorDeskModel" yX10_copy yX10_copy ∈ gTb := gTb_of 1034 (by decide +kernel) (by decide +kernel)
theorem m_1035 : Cond.code yX10_copy cX10_copy 7 (some .int) ∈ gTb := gTb_of 1035 (by decide +kernel) (by decide +kernel)
theorem m_1036 : Cond.methodLink "PoorDeskLaw" 144 yX10_read ∈ gTb := gTb_of 1036 (by decide +kernel) (by decide +kernel)
theorem m_1037 : Cond.instanceMethod yX10_read ∈ gTb := gTb_of 1037 (by decide +kernel) (by decide +kernel)
theorem m_1038 : Cond.selects "PoorDeskModel" yX10_read yX10_read ∈ gTb := gTb_of 1038 (by decide +kernel) (by decide +kernel)
theorem m_1039 : Cond.code yX10_read cX10_read 5 (some .int) ∈ gTb := gTb_of 1039 (by decide +kernel) (by decide +kernel)
theorem m_1040 : Cond.methodLink "PoorDeskLaw" 148 yX10_keep ∈ gTb := gTb_of 1040 (by decide +kernel) (by decide +kernel)
theorem m_1041 : Cond.instanceMethod yX10_keep ∈ gTb := gTb_of 1041 (by decide +kernel) (by decide +kernel)
theorem m_1042 : Cond.selects "PoorDeskModel" yX10_keep yX10_keep ∈ gTb := gTb_of 1042 (by decide +kernel) (by decide +kernel)
theorem m_1043 : Cond.code yX10_keep cX10_keep 2 (some .int) ∈ gTb := gTb_of 1043 (by decide +kernel) (by decide +kernel)
theorem m_1044 : Cond.methodLink "PoorDeskLaw" 152 yX10_back ∈ gTb := gTb_of 1044 (by decide +kernel) (by decide +kernel)
theorem m_1045 : Cond.instanceMethod yX10_back ∈ gTb := gTb_of 1045 (by decide +kernel) (by decide +kernel)
theorem m_1046 : Cond.selects "PoorDeskModel" yX10_back yX10_back ∈ gTb := gTb_of 1046 (by decide +kernel) (by decide +kernel)
theorem m_1047 : Cond.code yX10_back cX10_back 2 (some .int) ∈ gTb := gTb_of 1047 (by decide +kernel) (by decide +kernel)
theorem m_1048 : Cond.methodLink "PoorDeskLaw" 156 yX10_told ∈ gTb := gTb_of 1048 (by decide +kernel) (by decide +kernel)
theorem m_1049 : Cond.instanceMethod yX10_told ∈ gTb := gTb_of 1049 (by decide +kernel) (by decide +kernel)
theorem m_1050 : Cond.selects "PoorDeskModel" yX10_told yX10_told ∈ gTb := gTb_of 1050 (by decide +kernel) (by decide +kernel)
theorem m_1051 : Cond.code yX10_told cX10_told 2 (some .int) ∈ gTb := gTb_of 1051 (by decide +kernel) (by decide +kernel)
theorem m_262 : Cond.laysFinal "PoorDesk$Book" "PoorDesk$Book" "parishes" "LPoorDesk$Parishes;" ∈ gTb := gTb_of 262 (by decide +kernel) (by decide +kernel)
theorem m_264 : Cond.laysFinal "PoorDesk$Book" "PoorDesk$Book" "persons" "LPoorDesk$Persons;" ∈ gTb := gTb_of 264 (by decide +kernel) (by decide +kernel)
theorem m_266 : Cond.laysFinal "PoorDesk$Book" "PoorDesk$Book" "facts" "LPoorDesk$Facts;" ∈ gTb := gTb_of 266 (by decide +kernel) (by decide +kernel)
theorem m_268 : Cond.laysFinal "PoorDesk$Book" "PoorDesk$Book" "laws" "LPoorDesk$Laws;" ∈ gTb := gTb_of 268 (by decide +kernel) (by decide +kernel)
theorem m_270 : Cond.laysFinal "PoorDesk$Book" "PoorDesk$Book" "orders" "LPoorDesk$Orders;" ∈ gTb := gTb_of 270 (by decide +kernel) (by decide +kernel)
theorem m_272 : Cond.laysFinal "PoorDesk$Book" "PoorDesk$Book" "poor" "LPoorDesk$Poor;" ∈ gTb := gTb_of 272 (by decide +kernel) (by decide +kernel)
theorem m_274 : Cond.lays "PoorDesk$Book" "PoorDesk$Book" "term" "I" ∈ gTb := gTb_of 274 (by decide +kernel) (by decide +kernel)
theorem uX0 : ∀ w ∈ u_ws RX0 TX0 7, w ∈ gTb := List.forall_mem_cons.mpr ⟨m_262, List.forall_mem_cons.mpr ⟨m_264, List.forall_mem_cons.mpr ⟨m_266, List.forall_mem_cons.mpr ⟨m_268, List.forall_mem_cons.mpr ⟨m_270, List.forall_mem_cons.mpr ⟨m_272, List.forall_mem_cons.mpr ⟨m_274, fun _ h => absurd h List.not_mem_nil⟩⟩⟩⟩⟩⟩⟩
theorem m_139 : Cond.lays "PoorDesk$Facts" "PoorDesk$Facts" "count" "I" ∈ gTb := gTb_of 139 (by decide +kernel) (by decide +kernel)
theorem m_141 : Cond.laysFinal "PoorDesk$Facts" "PoorDesk$Facts" "kind" "[I" ∈ gTb := gTb_of 141 (by decide +kernel) (by decide +kernel)
theorem m_143 : Cond.laysFinal "PoorDesk$Facts" "PoorDesk$Facts" "person" "[I" ∈ gTb := gTb_of 143 (by decide +kernel) (by decide +kernel)
theorem m_145 : Cond.laysFinal "PoorDesk$Facts" "PoorDesk$Facts" "parish" "[I" ∈ gTb := gTb_of 145 (by decide +kernel) (by decide +kernel)
theorem m_147 : Cond.laysFinal "PoorDesk$Facts" "PoorDesk$Facts" "pounds" "[I" ∈ gTb := gTb_of 147 (by decide +kernel) (by decide +kernel)
theorem m_149 : Cond.laysFinal "PoorDesk$Facts" "PoorDesk$Facts" "from" "[I" ∈ gTb := gTb_of 149 (by decide +kernel) (by decide +kernel)
theorem m_151 : Cond.laysFinal "PoorDesk$Facts" "PoorDesk$Facts" "to" "[I" ∈ gTb := gTb_of 151 (by decide +kernel) (by decide +kernel)
theorem m_153 : Cond.laysFinal "PoorDesk$Facts" "PoorDesk$Facts" "known" "[I" ∈ gTb := gTb_of 153 (by decide +kernel) (by decide +kernel)
theorem m_155 : Cond.laysFinal "PoorDesk$Facts" "PoorDesk$Facts" "doubted" "[I" ∈ gTb := gTb_of 155 (by decide +kernel) (by decide +kernel)
theorem uX1 : ∀ w ∈ u_ws RX1 TX1 9, w ∈ gTb := List.forall_mem_cons.mpr ⟨m_139, List.forall_mem_cons.mpr ⟨m_141, List.forall_mem_cons.mpr ⟨m_143, List.forall_mem_cons.mpr ⟨m_145, List.forall_mem_cons.mpr ⟨m_147, List.forall_mem_cons.mpr ⟨m_149, List.forall_mem_cons.mpr ⟨m_151, List.forall_mem_cons.mpr ⟨m_153, List.forall_mem_cons.mpr ⟨m_155, fun _ h => absurd h List.not_mem_nil⟩⟩⟩⟩⟩⟩⟩⟩⟩
theorem m_172 : Cond.lays "PoorDesk$Laws" "PoorDesk$Laws" "count" "I" ∈ gTb := gTb_of 172 (by decide +kernel) (by decide +kernel)
theorem m_174 : Cond.laysFinal "PoorDesk$Laws" "PoorDesk$Laws" "kind" "[I" ∈ gTb := gTb_of 174 (by decide +kernel) (by decide +kernel)
theorem m_176 : Cond.laysFinal "PoorDesk$Laws" "PoorDesk$Laws" "number" "[I" ∈ gTb := gTb_of 176 (by decide +kernel) (by decide +kernel)
theorem m_178 : Cond.laysFinal "PoorDesk$Laws" "PoorDesk$Laws" "from" "[I" ∈ gTb := gTb_of 178 (by decide +kernel) (by decide +kernel)
theorem m_180 : Cond.laysFinal "PoorDesk$Laws" "PoorDesk$Laws" "to" "[I" ∈ gTb := gTb_of 180 (by decide +kernel) (by decide +kernel)
theorem uX2 : ∀ w ∈ u_ws RX2 TX2 5, w ∈ gTb := List.forall_mem_cons.mpr ⟨m_172, List.forall_mem_cons.mpr ⟨m_174, List.forall_mem_cons.mpr ⟨m_176, List.forall_mem_cons.mpr ⟨m_178, List.forall_mem_cons.mpr ⟨m_180, fun _ h => absurd h List.not_mem_nil⟩⟩⟩⟩⟩
theorem m_203 : Cond.lays "PoorDesk$Orders" "PoorDesk$Orders" "count" "I" ∈ gTb := gTb_of 203 (by decide +kernel) (by decide +kernel)
theorem m_205 : Cond.laysFinal "PoorDesk$Orders" "PoorDesk$Orders" "person" "[I" ∈ gTb := gTb_of 205 (by decide +kernel) (by decide +kernel)
theorem m_207 : Cond.laysFinal "PoorDesk$Orders" "PoorDesk$Orders" "from" "[I" ∈ gTb := gTb_of 207 (by decide +kernel) (by decide +kernel)
theorem m_209 : Cond.laysFinal "PoorDesk$Orders" "PoorDesk$Orders" "to" "[I" ∈ gTb := gTb_of 209 (by decide +kernel) (by decide +kernel)
theorem m_211 : Cond.laysFinal "PoorDesk$Orders" "PoorDesk$Orders" "day" "[I" ∈ gTb := gTb_of 211 (by decide +kernel) (by decide +kernel)
theorem m_213 : Cond.laysFinal "PoorDesk$Orders" "PoorDesk$Orders" "costs" "[I" ∈ gTb := gTb_of 213 (by decide +kernel) (by decide +kernel)
theorem m_215 : Cond.laysFinal "PoorDesk$Orders" "PoorDesk$Orders" "state" "[I" ∈ gTb := gTb_of 215 (by decide +kernel) (by decide +kernel)
theorem uX3 : ∀ w ∈ u_ws RX3 TX3 7, w ∈ gTb := List.forall_mem_cons.mpr ⟨m_203, List.forall_mem_cons.mpr ⟨m_205, List.forall_mem_cons.mpr ⟨m_207, List.forall_mem_cons.mpr ⟨m_209, List.forall_mem_cons.mpr ⟨m_211, List.forall_mem_cons.mpr ⟨m_213, List.forall_mem_cons.mpr ⟨m_215, fun _ h => absurd h List.not_mem_nil⟩⟩⟩⟩⟩⟩⟩
theorem m_72 : Cond.lays "PoorDesk$Parishes" "PoorDesk$Parishes" "count" "I" ∈ gTb := gTb_of 72 (by decide +kernel) (by decide +kernel)
theorem m_74 : Cond.laysFinal "PoorDesk$Parishes" "PoorDesk$Parishes" "worth" "[I" ∈ gTb := gTb_of 74 (by decide +kernel) (by decide +kernel)
theorem m_76 : Cond.laysFinal "PoorDesk$Parishes" "PoorDesk$Parishes" "miles" "[[I" ∈ gTb := gTb_of 76 (by decide +kernel) (by decide +kernel)
theorem uX4 : ∀ w ∈ u_ws RX4 TX4 3, w ∈ gTb := List.forall_mem_cons.mpr ⟨m_72, List.forall_mem_cons.mpr ⟨m_74, List.forall_mem_cons.mpr ⟨m_76, fun _ h => absurd h List.not_mem_nil⟩⟩⟩
theorem m_101 : Cond.lays "PoorDesk$Persons" "PoorDesk$Persons" "count" "I" ∈ gTb := gTb_of 101 (by decide +kernel) (by decide +kernel)
theorem m_103 : Cond.laysFinal "PoorDesk$Persons" "PoorDesk$Persons" "kind" "[I" ∈ gTb := gTb_of 103 (by decide +kernel) (by decide +kernel)
theorem m_105 : Cond.laysFinal "PoorDesk$Persons" "PoorDesk$Persons" "birthplace" "[I" ∈ gTb := gTb_of 105 (by decide +kernel) (by decide +kernel)
theorem m_107 : Cond.laysFinal "PoorDesk$Persons" "PoorDesk$Persons" "born" "[I" ∈ gTb := gTb_of 107 (by decide +kernel) (by decide +kernel)
theorem m_109 : Cond.laysFinal "PoorDesk$Persons" "PoorDesk$Persons" "leader" "[I" ∈ gTb := gTb_of 109 (by decide +kernel) (by decide +kernel)
theorem m_111 : Cond.laysFinal "PoorDesk$Persons" "PoorDesk$Persons" "married" "[I" ∈ gTb := gTb_of 111 (by decide +kernel) (by decide +kernel)
theorem uX5 : ∀ w ∈ u_ws RX5 TX5 6, w ∈ gTb := List.forall_mem_cons.mpr ⟨m_101, List.forall_mem_cons.mpr ⟨m_103, List.forall_mem_cons.mpr ⟨m_105, List.forall_mem_cons.mpr ⟨m_107, List.forall_mem_cons.mpr ⟨m_109, List.forall_mem_cons.mpr ⟨m_111, fun _ h => absurd h List.not_mem_nil⟩⟩⟩⟩⟩⟩
theorem m_234 : Cond.lays "PoorDesk$Poor" "PoorDesk$Poor" "scale" "I" ∈ gTb := gTb_of 234 (by decide +kernel) (by decide +kernel)
theorem m_236 : Cond.laysFinal "PoorDesk$Poor" "PoorDesk$Poor" "list" "[I" ∈ gTb := gTb_of 236 (by decide +kernel) (by decide +kernel)
theorem m_238 : Cond.laysFinal "PoorDesk$Poor" "PoorDesk$Poor" "since" "[I" ∈ gTb := gTb_of 238 (by decide +kernel) (by decide +kernel)
theorem m_240 : Cond.laysFinal "PoorDesk$Poor" "PoorDesk$Poor" "earned" "[I" ∈ gTb := gTb_of 240 (by decide +kernel) (by decide +kernel)
theorem m_242 : Cond.laysFinal "PoorDesk$Poor" "PoorDesk$Poor" "prices" "[I" ∈ gTb := gTb_of 242 (by decide +kernel) (by decide +kernel)
theorem uX6 : ∀ w ∈ u_ws RX6 TX6 5, w ∈ gTb := List.forall_mem_cons.mpr ⟨m_234, List.forall_mem_cons.mpr ⟨m_236, List.forall_mem_cons.mpr ⟨m_238, List.forall_mem_cons.mpr ⟨m_240, List.forall_mem_cons.mpr ⟨m_242, fun _ h => absurd h List.not_mem_nil⟩⟩⟩⟩⟩
theorem m_292 : Cond.laysFinal "PoorDesk$Reckoner" "PoorDesk$Reckoner" "book" "LPoorDesk$Book;" ∈ gTb := gTb_of 292 (by decide +kernel) (by decide +kernel)
theorem m_294 : Cond.laysFinal "PoorDesk$Reckoner" "PoorDesk$Reckoner" "gainDay" "[I" ∈ gTb := gTb_of 294 (by decide +kernel) (by decide +kernel)
theorem m_296 : Cond.laysFinal "PoorDesk$Reckoner" "PoorDesk$Reckoner" "line" "[I" ∈ gTb := gTb_of 296 (by decide +kernel) (by decide +kernel)
theorem m_298 : Cond.laysFinal "PoorDesk$Reckoner" "PoorDesk$Reckoner" "birthDay" "[I" ∈ gTb := gTb_of 298 (by decide +kernel) (by decide +kernel)
theorem m_300 : Cond.laysFinal "PoorDesk$Reckoner" "PoorDesk$Reckoner" "doubted" "[I" ∈ gTb := gTb_of 300 (by decide +kernel) (by decide +kernel)
theorem m_302 : Cond.laysFinal "PoorDesk$Reckoner" "PoorDesk$Reckoner" "setIfSo" "[I" ∈ gTb := gTb_of 302 (by decide +kernel) (by decide +kernel)
theorem m_304 : Cond.laysFinal "PoorDesk$Reckoner" "PoorDesk$Reckoner" "setIfNot" "[I" ∈ gTb := gTb_of 304 (by decide +kernel) (by decide +kernel)
theorem m_306 : Cond.lays "PoorDesk$Reckoner" "PoorDesk$Reckoner" "lineLength" "I" ∈ gTb := gTb_of 306 (by decide +kernel) (by decide +kernel)
theorem m_308 : Cond.lays "PoorDesk$Reckoner" "PoorDesk$Reckoner" "doubts" "I" ∈ gTb := gTb_of 308 (by decide +kernel) (by decide +kernel)
theorem uX7 : ∀ w ∈ u_ws RX7 TX7 9, w ∈ gTb := List.forall_mem_cons.mpr ⟨m_292, List.forall_mem_cons.mpr ⟨m_294, List.forall_mem_cons.mpr ⟨m_296, List.forall_mem_cons.mpr ⟨m_298, List.forall_mem_cons.mpr ⟨m_300, List.forall_mem_cons.mpr ⟨m_302, List.forall_mem_cons.mpr ⟨m_304, List.forall_mem_cons.mpr ⟨m_306, List.forall_mem_cons.mpr ⟨m_308, fun _ h => absurd h List.not_mem_nil⟩⟩⟩⟩⟩⟩⟩⟩⟩
theorem m_326 : Cond.lays "PoorDesk$Sheet" "PoorDesk$Sheet" "bits" "I" ∈ gTb := gTb_of 326 (by decide +kernel) (by decide +kernel)
theorem m_328 : Cond.lays "PoorDesk$Sheet" "PoorDesk$Sheet" "length" "I" ∈ gTb := gTb_of 328 (by decide +kernel) (by decide +kernel)
theorem m_330 : Cond.laysFinal "PoorDesk$Sheet" "PoorDesk$Sheet" "numbers" "[I" ∈ gTb := gTb_of 330 (by decide +kernel) (by decide +kernel)
theorem uX8 : ∀ w ∈ u_ws RX8 TX8 3, w ∈ gTb := List.forall_mem_cons.mpr ⟨m_326, List.forall_mem_cons.mpr ⟨m_328, List.forall_mem_cons.mpr ⟨m_330, fun _ h => absurd h List.not_mem_nil⟩⟩⟩
theorem m_339 : Cond.laysFinal "PoorDesk" "PoorDesk" "book" "LPoorDesk$Book;" ∈ gTb := gTb_of 339 (by decide +kernel) (by decide +kernel)
theorem m_341 : Cond.laysFinal "PoorDesk" "PoorDesk" "kept" "LPoorDesk$Book;" ∈ gTb := gTb_of 341 (by decide +kernel) (by decide +kernel)
theorem m_343 : Cond.laysFinal "PoorDesk" "PoorDesk" "reckoner" "LPoorDesk$Reckoner;" ∈ gTb := gTb_of 343 (by decide +kernel) (by decide +kernel)
theorem m_345 : Cond.laysFinal "PoorDesk" "PoorDesk" "sheets" "[LPoorDesk$Sheet;" ∈ gTb := gTb_of 345 (by decide +kernel) (by decide +kernel)
theorem m_347 : Cond.lays "PoorDesk" "PoorDesk" "isKept" "Z" ∈ gTb := gTb_of 347 (by decide +kernel) (by decide +kernel)
theorem m_349 : Cond.lays "PoorDesk" "PoorDesk" "findings" "I" ∈ gTb := gTb_of 349 (by decide +kernel) (by decide +kernel)
theorem uX9 : ∀ w ∈ u_ws RX9 TX9 6, w ∈ gTb := List.forall_mem_cons.mpr ⟨m_339, List.forall_mem_cons.mpr ⟨m_341, List.forall_mem_cons.mpr ⟨m_343, List.forall_mem_cons.mpr ⟨m_345, List.forall_mem_cons.mpr ⟨m_347, List.forall_mem_cons.mpr ⟨m_349, fun _ h => absurd h List.not_mem_nil⟩⟩⟩⟩⟩⟩
theorem m_801 : Cond.laysFinal "PoorDeskModel" "PoorDeskModel" "now" "[I" ∈ gTb := gTb_of 801 (by decide +kernel) (by decide +kernel)
theorem m_803 : Cond.laysFinal "PoorDeskModel" "PoorDeskModel" "kept" "[I" ∈ gTb := gTb_of 803 (by decide +kernel) (by decide +kernel)
theorem m_805 : Cond.lays "PoorDeskModel" "PoorDeskModel" "isKept" "Z" ∈ gTb := gTb_of 805 (by decide +kernel) (by decide +kernel)
theorem m_807 : Cond.lays "PoorDeskModel" "PoorDeskModel" "findings" "I" ∈ gTb := gTb_of 807 (by decide +kernel) (by decide +kernel)
theorem m_809 : Cond.laysFinal "PoorDeskModel" "PoorDeskModel" "bits" "[I" ∈ gTb := gTb_of 809 (by decide +kernel) (by decide +kernel)
theorem m_811 : Cond.laysFinal "PoorDeskModel" "PoorDeskModel" "sizes" "[I" ∈ gTb := gTb_of 811 (by decide +kernel) (by decide +kernel)
theorem m_813 : Cond.laysFinal "PoorDeskModel" "PoorDeskModel" "sheets" "[I" ∈ gTb := gTb_of 813 (by decide +kernel) (by decide +kernel)
theorem m_815 : Cond.lays "PoorDeskModel" "PoorDeskModel" "notSo" "I" ∈ gTb := gTb_of 815 (by decide +kernel) (by decide +kernel)
theorem m_817 : Cond.laysFinal "PoorDeskModel" "PoorDeskModel" "chain" "[I" ∈ gTb := gTb_of 817 (by decide +kernel) (by decide +kernel)
theorem m_819 : Cond.lays "PoorDeskModel" "PoorDeskModel" "teller" "I" ∈ gTb := gTb_of 819 (by decide +kernel) (by decide +kernel)
theorem m_821 : Cond.laysFinal "PoorDeskModel" "PoorDeskModel" "doubted" "[I" ∈ gTb := gTb_of 821 (by decide +kernel) (by decide +kernel)
theorem m_823 : Cond.laysFinal "PoorDeskModel" "PoorDeskModel" "outcome" "[I" ∈ gTb := gTb_of 823 (by decide +kernel) (by decide +kernel)
theorem m_825 : Cond.laysFinal "PoorDeskModel" "PoorDeskModel" "carried" "[I" ∈ gTb := gTb_of 825 (by decide +kernel) (by decide +kernel)
theorem uX10 : ∀ w ∈ u_ws RX10 TX10 13, w ∈ gTb := List.forall_mem_cons.mpr ⟨m_801, List.forall_mem_cons.mpr ⟨m_803, List.forall_mem_cons.mpr ⟨m_805, List.forall_mem_cons.mpr ⟨m_807, List.forall_mem_cons.mpr ⟨m_809, List.forall_mem_cons.mpr ⟨m_811, List.forall_mem_cons.mpr ⟨m_813, List.forall_mem_cons.mpr ⟨m_815, List.forall_mem_cons.mpr ⟨m_817, List.forall_mem_cons.mpr ⟨m_819, List.forall_mem_cons.mpr ⟨m_821, List.forall_mem_cons.mpr ⟨m_823, List.forall_mem_cons.mpr ⟨m_825, fun _ h => absurd h List.not_mem_nil⟩⟩⟩⟩⟩⟩⟩⟩⟩⟩⟩⟩⟩
end
section
def M_X9_within (a1 a2 a3 : Int32) (σ : gSt) : gO :=
  if a1 < a2 then (some (0, σ)) else (if a3 < a1 then (some (0, σ)) else (some (1, σ)))
set_option maxHeartbeats 4000000 in
set_option maxRecDepth 100000 in
theorem c_X9_within (l : Launch) (G : gPar) (a1 a2 a3 : Int32) (σ : gSt) {r : Int32} {σ' : gSt} (h : M_X9_within a1 a2 a3 σ = some (r, σ')) : gC l G yX9_within cX9_within 3 (some .boolean) 0 0 [.int a1, .int a2, .int a3] σ r σ' := by
  refine gC_of (by decide) (Nat.le_of_ble_eq_true rfl) ?_
  intro p e s m below meth c hx hb hr ht hown hlk hml hE hP ls hl
  have hS : va_S (gA G) s.heap s.heap [] := va_S.rf
  have hl : lv_has ls 3 [(0, .int a1), (1, .int a2), (2, .int a3)] := hl
  unfold M_X9_within at h
  refine lv_iload_n hx hb dX9_within_0 rfl (lv_at hl 0 rfl) ?_
  refine lv_iload_n hx hb dX9_within_1 rfl (lv_at hl 1 rfl) ?_
  refine lv_icmp_lt (tgt := 14) hx hb dX9_within_2 (by decide) (fun c1 => ?_) (fun c1 => ?_)
  · have h := g_ift c1 h
    refine lv_iconst (v := 0) hx hb dX9_within_14 (by decide) ?_
    exact g_zret hx hb hr hlk hE hP hS (by decide) h dX9_within_15
  · have h := g_iff c1 h
    refine lv_iload_n hx hb dX9_within_5 rfl (lv_at hl 0 rfl) ?_
    refine lv_iload_n hx hb dX9_within_6 rfl (lv_at hl 2 rfl) ?_
    refine lv_icmp_gt (tgt := 14) hx hb dX9_within_7 (by decide) (fun c2 => ?_) (fun c2 => ?_)
    · have h := g_ift c2 h
      refine lv_iconst (v := 0) hx hb dX9_within_14 (by decide) ?_
      exact g_zret hx hb hr hlk hE hP hS (by decide) h dX9_within_15
    · have h := g_iff c2 h
      refine lv_iconst (v := 1) hx hb dX9_within_10 (by decide) ?_
      refine lv_goto (tgt := 15) hx hb dX9_within_11 (by decide) ?_
      exact g_zret hx hb hr hlk hE hP hS (by decide) h dX9_within_15

def M_X9_isDay (a1 : Int32) (σ : gSt) : gO :=
  gBd (M_X9_within a1 0 9999 σ) (fun r2 σ1 => gGd (r2 = 0 ∨ r2 = 1) (some (r2, σ1)))
set_option maxHeartbeats 4000000 in
set_option maxRecDepth 100000 in
theorem c_X9_isDay (l : Launch) (G : gPar) (a1 : Int32) (σ : gSt) {r : Int32} {σ' : gSt} (h : M_X9_isDay a1 σ = some (r, σ')) : gC l G yX9_isDay cX9_isDay 1 (some .boolean) 1 22 [.int a1] σ r σ' := by
  refine gC_of (by decide) (Nat.le_of_ble_eq_true rfl) ?_
  intro p e s m below meth c hx hb hr ht hown hlk hml hE hP ls hl
  have hS : va_S (gA G) s.heap s.heap [] := va_S.rf
  have hl : lv_has ls 1 [(0, .int a1)] := hl
  unfold M_X9_isDay at h
  refine lv_iload_n hx hb dX9_isDay_0 rfl (lv_at hl 0 rfl) ?_
  refine lv_iconst (v := 0) hx hb dX9_isDay_1 (by decide) ?_
  refine lv_sipush (v := 9999) hx hb dX9_isDay_2 (by decide) ?_
  obtain ⟨r2, σ1, hcr2, h⟩ := g_bd h
  refine g_callS (As := [.int a1, .int 0, .int 9999]) (n := 3) hx hb hml hown ht (c_X9_within l G _ _ _ _ hcr2) m_356 m_357 m_30 m_358 (by decide +kernel) hE hP hS (fun _ h => h) (fun _ _ h => h) rfl hl.1 rfl (Nat.le_of_ble_eq_true rfl) dX9_isDay_5 ⟨by decide, by decide⟩ ⟨Nat.zero_le _, Nat.zero_le _⟩ (fun H locs hP hS => ?_)
  obtain ⟨z3, h⟩ := g_gd h
  exact g_zret hx hb hr hlk hE hP hS z3 h dX9_isDay_8

def M_X9_isWeek (a1 : Int32) (σ : gSt) : gO :=
  gBd (M_X9_within a1 0 59 σ) (fun r2 σ1 => gGd (r2 = 0 ∨ r2 = 1) (some (r2, σ1)))
set_option maxHeartbeats 4000000 in
set_option maxRecDepth 100000 in
theorem c_X9_isWeek (l : Launch) (G : gPar) (a1 : Int32) (σ : gSt) {r : Int32} {σ' : gSt} (h : M_X9_isWeek a1 σ = some (r, σ')) : gC l G yX9_isWeek cX9_isWeek 1 (some .boolean) 1 22 [.int a1] σ r σ' := by
  refine gC_of (by decide) (Nat.le_of_ble_eq_true rfl) ?_
  intro p e s m below meth c hx hb hr ht hown hlk hml hE hP ls hl
  have hS : va_S (gA G) s.heap s.heap [] := va_S.rf
  have hl : lv_has ls 1 [(0, .int a1)] := hl
  unfold M_X9_isWeek at h
  refine lv_iload_n hx hb dX9_isWeek_0 rfl (lv_at hl 0 rfl) ?_
  refine lv_iconst (v := 0) hx hb dX9_isWeek_1 (by decide) ?_
  refine lv_bipush (v := 59) hx hb dX9_isWeek_2 (by decide) ?_
  obtain ⟨r2, σ1, hcr2, h⟩ := g_bd h
  refine g_callS (As := [.int a1, .int 0, .int 59]) (n := 3) hx hb hml hown ht (c_X9_within l G _ _ _ _ hcr2) m_356 m_357 m_30 m_358 (by decide +kernel) hE hP hS (fun _ h => h) (fun _ _ h => h) rfl hl.1 rfl (Nat.le_of_ble_eq_true rfl) dX9_isWeek_4 ⟨by decide, by decide⟩ ⟨Nat.zero_le _, Nat.zero_le _⟩ (fun H locs hP hS => ?_)
  obtain ⟨z3, h⟩ := g_gd h
  exact g_zret hx hb hr hlk hE hP hS z3 h dX9_isWeek_7

def M_X9_isSheet (a1 : Int32) (σ : gSt) : gO :=
  gBd (M_X9_within a1 0 3 σ) (fun r2 σ1 => gGd (r2 = 0 ∨ r2 = 1) (some (r2, σ1)))
set_option maxHeartbeats 4000000 in
set_option maxRecDepth 100000 in
theorem c_X9_isSheet (l : Launch) (G : gPar) (a1 : Int32) (σ : gSt) {r : Int32} {σ' : gSt} (h : M_X9_isSheet a1 σ = some (r, σ')) : gC l G yX9_isSheet cX9_isSheet 1 (some .boolean) 1 22 [.int a1] σ r σ' := by
  refine gC_of (by decide) (Nat.le_of_ble_eq_true rfl) ?_
  intro p e s m below meth c hx hb hr ht hown hlk hml hE hP ls hl
  have hS : va_S (gA G) s.heap s.heap [] := va_S.rf
  have hl : lv_has ls 1 [(0, .int a1)] := hl
  unfold M_X9_isSheet at h
  refine lv_iload_n hx hb dX9_isSheet_0 rfl (lv_at hl 0 rfl) ?_
  refine lv_iconst (v := 0) hx hb dX9_isSheet_1 (by decide) ?_
  refine lv_iconst (v := 3) hx hb dX9_isSheet_2 (by decide) ?_
  obtain ⟨r2, σ1, hcr2, h⟩ := g_bd h
  refine g_callS (As := [.int a1, .int 0, .int 3]) (n := 3) hx hb hml hown ht (c_X9_within l G _ _ _ _ hcr2) m_356 m_357 m_30 m_358 (by decide +kernel) hE hP hS (fun _ h => h) (fun _ _ h => h) rfl hl.1 rfl (Nat.le_of_ble_eq_true rfl) dX9_isSheet_3 ⟨by decide, by decide⟩ ⟨Nat.zero_le _, Nat.zero_le _⟩ (fun H locs hP hS => ?_)
  obtain ⟨z3, h⟩ := g_gd h
  exact g_zret hx hb hr hlk hE hP hS z3 h dX9_isSheet_6

def M_X9_hasNumber (a1 : Int32) (σ : gSt) : gO :=
  if a1 = 0 then (some (0, σ)) else (if a1 = 3 then (some (0, σ)) else (some (1, σ)))
set_option maxHeartbeats 4000000 in
set_option maxRecDepth 100000 in
theorem c_X9_hasNumber (l : Launch) (G : gPar) (a1 : Int32) (σ : gSt) {r : Int32} {σ' : gSt} (h : M_X9_hasNumber a1 σ = some (r, σ')) : gC l G yX9_hasNumber cX9_hasNumber 1 (some .boolean) 0 0 [.int a1] σ r σ' := by
  refine gC_of (by decide) (Nat.le_of_ble_eq_true rfl) ?_
  intro p e s m below meth c hx hb hr ht hown hlk hml hE hP ls hl
  have hS : va_S (gA G) s.heap s.heap [] := va_S.rf
  have hl : lv_has ls 1 [(0, .int a1)] := hl
  unfold M_X9_hasNumber at h
  refine lv_iload_n hx hb dX9_hasNumber_0 rfl (lv_at hl 0 rfl) ?_
  refine lv_if_eq (tgt := 13) hx hb dX9_hasNumber_1 (by decide) (fun c1 => ?_) (fun c1 => ?_)
  · have h := g_ift c1 h
    refine lv_iconst (v := 0) hx hb dX9_hasNumber_13 (by decide) ?_
    exact g_zret hx hb hr hlk hE hP hS (by decide) h dX9_hasNumber_14
  · have h := g_iff c1 h
    refine lv_iload_n hx hb dX9_hasNumber_4 rfl (lv_at hl 0 rfl) ?_
    refine lv_iconst (v := 3) hx hb dX9_hasNumber_5 (by decide) ?_
    refine lv_icmp_eq (tgt := 13) hx hb dX9_hasNumber_6 (by decide) (fun c2 => ?_) (fun c2 => ?_)
    · have h := g_ift c2 h
      refine lv_iconst (v := 0) hx hb dX9_hasNumber_13 (by decide) ?_
      exact g_zret hx hb hr hlk hE hP hS (by decide) h dX9_hasNumber_14
    · have h := g_iff c2 h
      refine lv_iconst (v := 1) hx hb dX9_hasNumber_9 (by decide) ?_
      refine lv_goto (tgt := 14) hx hb dX9_hasNumber_10 (by decide) ?_
      exact g_zret hx hb hr hlk hE hP hS (by decide) h dX9_hasNumber_14

def M_X9_finding (a1 : Int32) (σ : gSt) : gO :=
  gNm (gUp σ 0 5 ((σ 0 5) + 1)) (fun σ1 => some (a1, σ1))
set_option maxHeartbeats 4000000 in
set_option maxRecDepth 100000 in
theorem c_X9_finding (l : Launch) (G : gPar) (a1 : Int32) (σ : gSt) {r : Int32} {σ' : gSt} (h : M_X9_finding a1 σ = some (r, σ')) : gC l G yX9_finding cX9_finding 2 (some .int) 0 0 [.ref (G.2.2.1 0), .int a1] σ r σ' := by
  refine gC_of (by decide) (Nat.le_of_ble_eq_true rfl) ?_
  intro p e s m below meth c hx hb hr ht hown hlk hml hE hP ls hl
  have hS : va_S (gA G) s.heap s.heap [] := va_S.rf
  have hl : lv_has ls 2 [(0, .ref (G.2.2.1 0)), (1, .int a1)] := hl
  unfold M_X9_finding at h
  refine lv_aload_n hx hb dX9_finding_0 rfl (lv_at hl 0 rfl) ?_
  refine lv_dup hx hb dX9_finding_1 rfl ?_
  refine g_get hx hb ht hown hE hP (by decide) gE_0 uX9 rfl 5 (by decide) m_338 rfl rfl dX9_finding_2 ?_
  refine lv_iconst (v := 1) hx hb dX9_finding_5 (by decide) ?_
  refine lv_iadd hx hb dX9_finding_6 ?_
  refine g_put hx hb ht hown hE hP hS (by decide) gE_0 uX9 tyX9_ok nmX9 rfl 5 (by decide) m_338 rfl rfl rfl rfl rfl (Nat.le_of_ble_eq_true rfl) rfl dX9_finding_7 (fun H locs σ1 eσ1 hP hS => ?_)
  have h := g_nm eσ1 h
  refine lv_iload_n hx hb dX9_finding_10 rfl (lv_at hl 1 rfl) ?_
  exact g_iret hx hb hr hlk hE hP hS h dX9_finding_11

def M_X9_parishOrNone (a1 : Int32) (σ : gSt) : gO :=
  if a1 = (-1) then (gBd (M_X9_finding (-100006) σ) (fun r3 σ2 => some (r3, σ2))) else (some (a1, σ))
set_option maxHeartbeats 4000000 in
set_option maxRecDepth 100000 in
theorem c_X9_parishOrNone (l : Launch) (G : gPar) (a1 : Int32) (σ : gSt) {r : Int32} {σ' : gSt} (h : M_X9_parishOrNone a1 σ = some (r, σ')) : gC l G yX9_parishOrNone cX9_parishOrNone 2 (some .int) 1 21 [.ref (G.2.2.1 0), .int a1] σ r σ' := by
  refine gC_of (by decide) (Nat.le_of_ble_eq_true rfl) ?_
  intro p e s m below meth c hx hb hr ht hown hlk hml hE hP ls hl
  have hS : va_S (gA G) s.heap s.heap [] := va_S.rf
  have hl : lv_has ls 2 [(0, .ref (G.2.2.1 0)), (1, .int a1)] := hl
  unfold M_X9_parishOrNone at h
  refine lv_iload_n hx hb dX9_parishOrNone_0 rfl (lv_at hl 1 rfl) ?_
  refine lv_iconst (v := (-1)) hx hb dX9_parishOrNone_1 (by decide) ?_
  refine lv_icmp_ne (tgt := 14) hx hb dX9_parishOrNone_2 (by decide) (fun c1 => ?_) (fun c1 => ?_)
  · have h := g_iff c1 h
    refine lv_iload_n hx hb dX9_parishOrNone_14 rfl (lv_at hl 1 rfl) ?_
    exact g_iret hx hb hr hlk hE hP hS h dX9_parishOrNone_15
  · have h := g_ift c1 h
    refine lv_aload_n hx hb dX9_parishOrNone_5 rfl (lv_at hl 0 rfl) ?_
    refine lv_ldc hx hb hown (ht _ m_454) dX9_parishOrNone_6 ?_
    obtain ⟨r3, σ2, hcr3, h⟩ := g_bd h
    refine g_callV (As := [.int (-100006)]) (n := 1) hx hb hml hown ht (c_X9_finding l G _ _ hcr3) m_360 m_362 m_0 m_30 m_363 (by decide +kernel) (by decide) gE_0 rfl hE hP hS (fun _ h => h) (fun _ _ h => h) rfl hl.1 rfl (Nat.le_of_ble_eq_true rfl) dX9_parishOrNone_8 ⟨by decide, by decide⟩ ⟨Nat.zero_le _, Nat.zero_le _⟩ (fun H locs hP hS => ?_)
    refine lv_goto (tgt := 15) hx hb dX9_parishOrNone_11 (by decide) ?_
    exact g_iret hx hb hr hlk hE hP hS h dX9_parishOrNone_15

def M_X4_has (a1 : Int32) (σ : gSt) : gO :=
  if a1 < 0 then (some (0, σ)) else (if (σ 2 0) ≤ a1 then (some (0, σ)) else (some (1, σ)))
set_option maxHeartbeats 4000000 in
set_option maxRecDepth 100000 in
theorem c_X4_has (l : Launch) (G : gPar) (a1 : Int32) (σ : gSt) {r : Int32} {σ' : gSt} (h : M_X4_has a1 σ = some (r, σ')) : gC l G yX4_has cX4_has 2 (some .boolean) 0 0 [.ref (G.2.2.1 2), .int a1] σ r σ' := by
  refine gC_of (by decide) (Nat.le_of_ble_eq_true rfl) ?_
  intro p e s m below meth c hx hb hr ht hown hlk hml hE hP ls hl
  have hS : va_S (gA G) s.heap s.heap [] := va_S.rf
  have hl : lv_has ls 2 [(0, .ref (G.2.2.1 2)), (1, .int a1)] := hl
  unfold M_X4_has at h
  refine lv_iload_n hx hb dX4_has_0 rfl (lv_at hl 1 rfl) ?_
  refine lv_if_lt (tgt := 16) hx hb dX4_has_1 (by decide) (fun c1 => ?_) (fun c1 => ?_)
  · have h := g_ift c1 h
    refine lv_iconst (v := 0) hx hb dX4_has_16 (by decide) ?_
    exact g_zret hx hb hr hlk hE hP hS (by decide) h dX4_has_17
  · have h := g_iff c1 h
    refine lv_iload_n hx hb dX4_has_4 rfl (lv_at hl 1 rfl) ?_
    refine lv_aload_n hx hb dX4_has_5 rfl (lv_at hl 0 rfl) ?_
    refine g_get hx hb ht hown hE hP (by decide) gE_2 uX4 rfl 0 (by decide) m_67 rfl rfl dX4_has_6 ?_
    refine lv_icmp_ge (tgt := 16) hx hb dX4_has_9 (by decide) (fun c2 => ?_) (fun c2 => ?_)
    · have h := g_ift c2 h
      refine lv_iconst (v := 0) hx hb dX4_has_16 (by decide) ?_
      exact g_zret hx hb hr hlk hE hP hS (by decide) h dX4_has_17
    · have h := g_iff c2 h
      refine lv_iconst (v := 1) hx hb dX4_has_12 (by decide) ?_
      refine lv_goto (tgt := 17) hx hb dX4_has_13 (by decide) ?_
      exact g_zret hx hb hr hlk hE hP hS (by decide) h dX4_has_17

def M_X4_add (a1 : Int32) (σ : gSt) : gO :=
  gIx 6 (σ 2 0) (gNm (gUp σ 3 (σ 2 0).toNatClampNeg a1) (fun σ2 => gNm (gUp σ2 2 0 ((σ2 2 0) + 1)) (fun σ3 => some (((σ3 2 0) - 1), σ3))))
set_option maxHeartbeats 4000000 in
set_option maxRecDepth 100000 in
theorem c_X4_add (l : Launch) (G : gPar) (a1 : Int32) (σ : gSt) {r : Int32} {σ' : gSt} (h : M_X4_add a1 σ = some (r, σ')) : gC l G yX4_add cX4_add 2 (some .int) 0 0 [.ref (G.2.2.1 2), .int a1] σ r σ' := by
  refine gC_of (by decide) (Nat.le_of_ble_eq_true rfl) ?_
  intro p e s m below meth c hx hb hr ht hown hlk hml hE hP ls hl
  have hS : va_S (gA G) s.heap s.heap [] := va_S.rf
  have hl : lv_has ls 2 [(0, .ref (G.2.2.1 2)), (1, .int a1)] := hl
  unfold M_X4_add at h
  refine lv_aload_n hx hb dX4_add_0 rfl (lv_at hl 0 rfl) ?_
  refine g_get hx hb ht hown hE hP (by decide) gE_2 uX4 rfl 1 (by decide) m_69 rfl rfl dX4_add_1 ?_
  refine lv_aload_n hx hb dX4_add_4 rfl (lv_at hl 0 rfl) ?_
  refine g_get hx hb ht hown hE hP (by decide) gE_2 uX4 rfl 0 (by decide) m_67 rfl rfl dX4_add_5 ?_
  refine lv_iload_n hx hb dX4_add_8 rfl (lv_at hl 1 rfl) ?_
  obtain ⟨i1, h⟩ := g_ix h
  refine g_iast hx hb hE hP hS (by decide) rfl (by decide) i1 dX4_add_9 (fun H locs σ2 eσ2 hP hS => ?_)
  have h := g_nm eσ2 h
  refine lv_aload_n hx hb dX4_add_10 rfl (lv_at hl 0 rfl) ?_
  refine lv_dup hx hb dX4_add_11 rfl ?_
  refine g_get hx hb ht hown hE hP (by decide) gE_2 uX4 rfl 0 (by decide) m_67 rfl rfl dX4_add_12 ?_
  refine lv_iconst (v := 1) hx hb dX4_add_15 (by decide) ?_
  refine lv_iadd hx hb dX4_add_16 ?_
  refine g_put hx hb ht hown hE hP hS (by decide) gE_2 uX4 tyX4_ok nmX4 rfl 0 (by decide) m_67 rfl rfl rfl rfl rfl (Nat.le_of_ble_eq_true rfl) rfl dX4_add_17 (fun H locs σ3 eσ3 hP hS => ?_)
  have h := g_nm eσ3 h
  refine lv_aload_n hx hb dX4_add_20 rfl (lv_at hl 0 rfl) ?_
  refine g_get hx hb ht hown hE hP (by decide) gE_2 uX4 rfl 0 (by decide) m_67 rfl rfl dX4_add_21 ?_
  refine lv_iconst (v := 1) hx hb dX4_add_24 (by decide) ?_
  refine lv_isub hx hb dX4_add_25 ?_
  exact g_iret hx hb hr hlk hE hP hS h dX4_add_26

def L1_X4_allWorth : Nat → Int32 → Int32 → gSt → (Int32 → Int32 → gSt → gO) → gO
  | 0, _, _, _, _ => none
  | nL1 + 1, l1_2, l1_1, σL1, kL1 =>
    if (σL1 2 0) ≤ l1_2 then (kL1 l1_2 l1_1 σL1) else (gIx 6 l1_2 (gNm ((l1_1 + (σL1 3 l1_2.toNatClampNeg))) (fun x4 => gNm (l1_2 + 1) (fun x5 => L1_X4_allWorth nL1 x5 x4 σL1 kL1))))
def M_X4_allWorth (σ : gSt) : gO :=
  L1_X4_allWorth gFu 0 0 σ (fun z6 z7 σ8 => some (z7, σ8))
set_option maxHeartbeats 4000000 in
set_option maxRecDepth 100000 in
theorem c_X4_allWorth (l : Launch) (G : gPar) (σ : gSt) {r : Int32} {σ' : gSt} (h : M_X4_allWorth σ = some (r, σ')) : gC l G yX4_allWorth cX4_allWorth 3 (some .int) 0 0 [.ref (G.2.2.1 2)] σ r σ' := by
  refine gC_of (by decide) (Nat.le_of_ble_eq_true rfl) ?_
  intro p e s m below meth c hx hb hr ht hown hlk hml hE hP ls hl
  have hS : va_S (gA G) s.heap s.heap [] := va_S.rf
  have hl : lv_has ls 3 [(0, .ref (G.2.2.1 2))] := hl
  unfold M_X4_allWorth at h
  refine lv_iconst (v := 0) hx hb dX4_allWorth_0 (by decide) ?_
  refine lv_istore_n (lv' := [(1, .int 0), (0, .ref (G.2.2.1 2))]) hx hb dX4_allWorth_1 rfl hl (by decide) rfl (fun ls hl => ?_)
  refine lv_iconst (v := 0) hx hb dX4_allWorth_2 (by decide) ?_
  refine lv_istore_n (lv' := [(2, .int 0), (1, .int 0), (0, .ref (G.2.2.1 2))]) hx hb dX4_allWorth_3 rfl hl (by decide) rfl (fun ls hl => ?_)
  have LPL1 : ∀ (kL1 : Int32 → Int32 → gSt → gO), (∀ (l1_2 l1_1 : Int32) (σL1 : gSt) (H : Heap) (locs : List Loc) (ls : Array Slot), kL1 l1_2 l1_1 σL1 = some (r, σ') → gW G σL1 H → va_S (gA G) s.heap H locs → lv_has ls 3 [(2, .int l1_2), (1, .int l1_1), (0, .ref (G.2.2.1 2))] → W p l e (gRm 0 0) s m ([.ref (G.2.2.1 2)].toArray) below meth c H locs 0 0 (MQ below (gQ G r σ') ([.ref (G.2.2.1 2)].toArray) s 0 0 (gA G)) (F0 m 27 ls [])) → ∀ (nL1 : Nat) (l1_2 l1_1 : Int32) (σL1 : gSt) (H : Heap) (locs : List Loc) (ls : Array Slot), L1_X4_allWorth nL1 l1_2 l1_1 σL1 kL1 = some (r, σ') → gW G σL1 H → va_S (gA G) s.heap H locs → lv_has ls 3 [(2, .int l1_2), (1, .int l1_1), (0, .ref (G.2.2.1 2))] → W p l e (gRm 0 0) s m ([.ref (G.2.2.1 2)].toArray) below meth c H locs 0 0 (MQ below (gQ G r σ') ([.ref (G.2.2.1 2)].toArray) s 0 0 (gA G)) (F0 m 4 ls []) := by
    intro kL1 hKL1 nL1
    induction nL1 with
    | zero =>
      intro l1_2 l1_1 σL1 H locs ls h
      cases h
    | succ nL1 ihL1 =>
      intro l1_2 l1_1 σL1 H locs ls h hP hS hl
      rw [L1_X4_allWorth] at h
      refine lv_iload_n hx hb dX4_allWorth_4 rfl (lv_at hl 0 rfl) ?_
      refine lv_aload_n hx hb dX4_allWorth_5 rfl (lv_at hl 2 rfl) ?_
      refine g_get hx hb ht hown hE hP (by decide) gE_2 uX4 rfl 0 (by decide) m_67 rfl rfl dX4_allWorth_6 ?_
      refine lv_icmp_ge (tgt := 27) hx hb dX4_allWorth_9 (by decide) (fun c2 => ?_) (fun c2 => ?_)
      · have h := g_ift c2 h
        exact hKL1 _ _ _ _ _ _ h hP hS (lv_sub hl [0, 1, 2] rfl)
      · have h := g_iff c2 h
        refine lv_iload_n hx hb dX4_allWorth_12 rfl (lv_at hl 1 rfl) ?_
        refine lv_aload_n hx hb dX4_allWorth_13 rfl (lv_at hl 2 rfl) ?_
        refine g_get hx hb ht hown hE hP (by decide) gE_2 uX4 rfl 1 (by decide) m_69 rfl rfl dX4_allWorth_14 ?_
        refine lv_iload_n hx hb dX4_allWorth_17 rfl (lv_at hl 0 rfl) ?_
        obtain ⟨i3, h⟩ := g_ix h
        refine g_iald hx hb hE hP (by decide) rfl (by decide) i3 dX4_allWorth_18 ?_
        refine lv_iadd hx hb dX4_allWorth_19 ?_
        refine lv_topi (fun x4 ex4 => ?_)
        have h := g_nm ex4 h
        refine lv_istore_n (lv' := [(1, .int x4), (2, .int l1_2), (0, .ref (G.2.2.1 2))]) hx hb dX4_allWorth_20 rfl hl (by decide) rfl (fun ls hl => ?_)
        obtain ⟨x5, ex5⟩ : ∃ y : Int32, y = l1_2 + 1 := ⟨_, rfl⟩
        have h := g_nm ex5 h
        refine lv_iinc (v := x5) (lv' := [(2, .int x5), (1, .int x4), (0, .ref (G.2.2.1 2))]) hx hb dX4_allWorth_21 hl (k := 1) rfl (by rw [ex5]; rfl) (by decide) rfl (fun ls hl => ?_)
        refine lv_goto (tgt := 4) hx hb dX4_allWorth_24 (by decide) ?_
        exact ihL1 _ _ _ _ _ _ h hP hS (lv_sub hl [0, 1, 2] rfl)
  refine LPL1 _ (fun z6 z7 σ8 H locs ls h hP hS hl => ?_) gFu _ _ _ _ _ _ h hP hS (lv_sub hl [0, 1, 2] rfl)
  refine lv_iload_n hx hb dX4_allWorth_27 rfl (lv_at hl 1 rfl) ?_
  exact g_iret hx hb hr hlk hE hP hS h dX4_allWorth_28

def L5_X4_share (x4 a1 a2 a3 : Int32) : Nat → Int32 → Int32 → Int32 → gSt → (Int32 → Int32 → Int32 → gSt → gO) → gO
  | 0, _, _, _, _, _ => none
  | nL5 + 1, l5_7, l5_5, l5_4, σL5, kL5 =>
    if (σL5 2 0) ≤ l5_7 then (kL5 l5_7 l5_5 l5_4 σL5) else (gIx 6 l5_7 (gGd (¬ a3 = 0) (gNm ((l5_4 - (((σL5 3 l5_7.toNatClampNeg) * a2) / a3))) (fun x9 => gIx 6 l5_7 (gGd (¬ a3 = 0) (gNm ((((σL5 3 l5_7.toNatClampNeg) * a2) - ((σL5 3 l5_7.toNatClampNeg) * a2) / a3 * a3)) (fun x12 => if x4 < x12 then (gNm (l5_5 + 1) (fun x14 => gNm (l5_7 + 1) (fun x15 => L5_X4_share x4 a1 a2 a3 nL5 x15 x14 x9 σL5 kL5))) else (if x12 = x4 then (if a1 ≤ l5_7 then (gNm (l5_7 + 1) (fun x19 => L5_X4_share x4 a1 a2 a3 nL5 x19 l5_5 x9 σL5 kL5)) else (gNm (l5_5 + 1) (fun x20 => gNm (l5_7 + 1) (fun x21 => L5_X4_share x4 a1 a2 a3 nL5 x21 x20 x9 σL5 kL5)))) else (gNm (l5_7 + 1) (fun x17 => L5_X4_share x4 a1 a2 a3 nL5 x17 l5_5 x9 σL5 kL5))))))))))
def M_X4_share (a1 a2 a3 : Int32) (σ : gSt) : gO :=
  if 0 < a3 then (gIx 6 a1 (gGd (¬ a3 = 0) (gNm ((((σ 3 a1.toNatClampNeg) * a2) - ((σ 3 a1.toNatClampNeg) * a2) / a3 * a3)) (fun x4 => L5_X4_share x4 a1 a2 a3 gFu 0 0 a2 σ (fun z22 z23 z24 σ25 => gIx 6 a1 (gGd (¬ a3 = 0) (if z24 ≤ z23 then (some (((((σ25 3 a1.toNatClampNeg) * a2) / a3) + 0), σ25)) else (some (((((σ25 3 a1.toNatClampNeg) * a2) / a3) + 1), σ25))))))))) else (some (0, σ))
set_option maxHeartbeats 4000000 in
set_option maxRecDepth 100000 in
theorem c_X4_share (l : Launch) (G : gPar) (a1 a2 a3 : Int32) (σ : gSt) {r : Int32} {σ' : gSt} (h : M_X4_share a1 a2 a3 σ = some (r, σ')) : gC l G yX4_share cX4_share 9 (some .int) 0 0 [.ref (G.2.2.1 2), .int a1, .int a2, .int a3] σ r σ' := by
  refine gC_of (by decide) (Nat.le_of_ble_eq_true rfl) ?_
  intro p e s m below meth c hx hb hr ht hown hlk hml hE hP ls hl
  have hS : va_S (gA G) s.heap s.heap [] := va_S.rf
  have hl : lv_has ls 9 [(0, .ref (G.2.2.1 2)), (1, .int a1), (2, .int a2), (3, .int a3)] := hl
  unfold M_X4_share at h
  refine lv_iload_n hx hb dX4_share_0 rfl (lv_at hl 3 rfl) ?_
  refine lv_if_gt (tgt := 6) hx hb dX4_share_1 (by decide) (fun c1 => ?_) (fun c1 => ?_)
  · have h := g_ift c1 h
    refine lv_iload_n hx hb dX4_share_6 rfl (lv_at hl 2 rfl) ?_
    refine lv_istore (lv' := [(4, .int a2), (0, .ref (G.2.2.1 2)), (1, .int a1), (2, .int a2), (3, .int a3)]) hx hb dX4_share_7 hl (by decide) rfl (fun ls hl => ?_)
    refine lv_iconst (v := 0) hx hb dX4_share_9 (by decide) ?_
    refine lv_istore (lv' := [(5, .int 0), (4, .int a2), (0, .ref (G.2.2.1 2)), (1, .int a1), (2, .int a2), (3, .int a3)]) hx hb dX4_share_10 hl (by decide) rfl (fun ls hl => ?_)
    refine lv_aload_n hx hb dX4_share_12 rfl (lv_at hl 2 rfl) ?_
    refine g_get hx hb ht hown hE hP (by decide) gE_2 uX4 rfl 1 (by decide) m_69 rfl rfl dX4_share_13 ?_
    refine lv_iload_n hx hb dX4_share_16 rfl (lv_at hl 3 rfl) ?_
    obtain ⟨i2, h⟩ := g_ix h
    refine g_iald hx hb hE hP (by decide) rfl (by decide) i2 dX4_share_17 ?_
    refine lv_iload_n hx hb dX4_share_18 rfl (lv_at hl 4 rfl) ?_
    refine lv_imul hx hb dX4_share_19 ?_
    refine lv_iload_n hx hb dX4_share_20 rfl (lv_at hl 5 rfl) ?_
    obtain ⟨d3, h⟩ := g_gd h
    refine lv_irem hx hb dX4_share_21 d3 ?_
    refine lv_topi (fun x4 ex4 => ?_)
    have h := g_nm ex4 h
    refine lv_istore (lv' := [(6, .int x4), (5, .int 0), (4, .int a2), (0, .ref (G.2.2.1 2)), (1, .int a1), (2, .int a2), (3, .int a3)]) hx hb dX4_share_22 hl (by decide) rfl (fun ls hl => ?_)
    refine lv_iconst (v := 0) hx hb dX4_share_24 (by decide) ?_
    refine lv_istore (lv' := [(7, .int 0), (6, .int x4), (5, .int 0), (4, .int a2), (0, .ref (G.2.2.1 2)), (1, .int a1), (2, .int a2), (3, .int a3)]) hx hb dX4_share_25 hl (by decide) rfl (fun ls hl => ?_)
    have LPL5 : ∀ (kL5 : Int32 → Int32 → Int32 → gSt → gO), (∀ (l5_7 l5_5 l5_4 : Int32) (σL5 : gSt) (H : Heap) (locs : List Loc) (ls : Array Slot), kL5 l5_7 l5_5 l5_4 σL5 = some (r, σ') → gW G σL5 H → va_S (gA G) s.heap H locs → lv_has ls 9 [(7, .int l5_7), (6, .int x4), (5, .int l5_5), (4, .int l5_4), (0, .ref (G.2.2.1 2)), (1, .int a1), (2, .int a2), (3, .int a3)] → W p l e (gRm 0 0) s m ([.ref (G.2.2.1 2), .int a1, .int a2, .int a3].toArray) below meth c H locs 0 0 (MQ below (gQ G r σ') ([.ref (G.2.2.1 2), .int a1, .int a2, .int a3].toArray) s 0 0 (gA G)) (F0 m 94 ls [])) → ∀ (nL5 : Nat) (l5_7 l5_5 l5_4 : Int32) (σL5 : gSt) (H : Heap) (locs : List Loc) (ls : Array Slot), L5_X4_share x4 a1 a2 a3 nL5 l5_7 l5_5 l5_4 σL5 kL5 = some (r, σ') → gW G σL5 H → va_S (gA G) s.heap H locs → lv_has ls 9 [(7, .int l5_7), (6, .int x4), (5, .int l5_5), (4, .int l5_4), (0, .ref (G.2.2.1 2)), (1, .int a1), (2, .int a2), (3, .int a3)] → W p l e (gRm 0 0) s m ([.ref (G.2.2.1 2), .int a1, .int a2, .int a3].toArray) below meth c H locs 0 0 (MQ below (gQ G r σ') ([.ref (G.2.2.1 2), .int a1, .int a2, .int a3].toArray) s 0 0 (gA G)) (F0 m 27 ls []) := by
      intro kL5 hKL5 nL5
      induction nL5 with
      | zero =>
        intro l5_7 l5_5 l5_4 σL5 H locs ls h
        cases h
      | succ nL5 ihL5 =>
        intro l5_7 l5_5 l5_4 σL5 H locs ls h hP hS hl
        rw [L5_X4_share] at h
        refine lv_iload hx hb dX4_share_27 (lv_at hl 0 rfl) ?_
        refine lv_aload_n hx hb dX4_share_29 rfl (lv_at hl 4 rfl) ?_
        refine g_get hx hb ht hown hE hP (by decide) gE_2 uX4 rfl 0 (by decide) m_67 rfl rfl dX4_share_30 ?_
        refine lv_icmp_ge (tgt := 94) hx hb dX4_share_33 (by decide) (fun c6 => ?_) (fun c6 => ?_)
        · have h := g_ift c6 h
          exact hKL5 _ _ _ _ _ _ _ h hP hS (lv_sub hl [0, 1, 2, 3, 4, 5, 6, 7] rfl)
        · have h := g_iff c6 h
          refine lv_iload hx hb dX4_share_36 (lv_at hl 3 rfl) ?_
          refine lv_aload_n hx hb dX4_share_38 rfl (lv_at hl 4 rfl) ?_
          refine g_get hx hb ht hown hE hP (by decide) gE_2 uX4 rfl 1 (by decide) m_69 rfl rfl dX4_share_39 ?_
          refine lv_iload hx hb dX4_share_42 (lv_at hl 0 rfl) ?_
          obtain ⟨i7, h⟩ := g_ix h
          refine g_iald hx hb hE hP (by decide) rfl (by decide) i7 dX4_share_44 ?_
          refine lv_iload_n hx hb dX4_share_45 rfl (lv_at hl 6 rfl) ?_
          refine lv_imul hx hb dX4_share_46 ?_
          refine lv_iload_n hx hb dX4_share_47 rfl (lv_at hl 7 rfl) ?_
          obtain ⟨d8, h⟩ := g_gd h
          refine lv_idiv hx hb dX4_share_48 d8 ?_
          refine lv_isub hx hb dX4_share_49 ?_
          refine lv_topi (fun x9 ex9 => ?_)
          have h := g_nm ex9 h
          refine lv_istore (lv' := [(4, .int x9), (7, .int l5_7), (6, .int x4), (5, .int l5_5), (0, .ref (G.2.2.1 2)), (1, .int a1), (2, .int a2), (3, .int a3)]) hx hb dX4_share_50 hl (by decide) rfl (fun ls hl => ?_)
          refine lv_aload_n hx hb dX4_share_52 rfl (lv_at hl 4 rfl) ?_
          refine g_get hx hb ht hown hE hP (by decide) gE_2 uX4 rfl 1 (by decide) m_69 rfl rfl dX4_share_53 ?_
          refine lv_iload hx hb dX4_share_56 (lv_at hl 1 rfl) ?_
          obtain ⟨i10, h⟩ := g_ix h
          refine g_iald hx hb hE hP (by decide) rfl (by decide) i10 dX4_share_58 ?_
          refine lv_iload_n hx hb dX4_share_59 rfl (lv_at hl 6 rfl) ?_
          refine lv_imul hx hb dX4_share_60 ?_
          refine lv_iload_n hx hb dX4_share_61 rfl (lv_at hl 7 rfl) ?_
          obtain ⟨d11, h⟩ := g_gd h
          refine lv_irem hx hb dX4_share_62 d11 ?_
          refine lv_topi (fun x12 ex12 => ?_)
          have h := g_nm ex12 h
          refine lv_istore (lv' := [(8, .int x12), (4, .int x9), (7, .int l5_7), (6, .int x4), (5, .int l5_5), (0, .ref (G.2.2.1 2)), (1, .int a1), (2, .int a2), (3, .int a3)]) hx hb dX4_share_63 hl (by decide) rfl (fun ls hl => ?_)
          refine lv_iload hx hb dX4_share_65 (lv_at hl 0 rfl) ?_
          refine lv_iload hx hb dX4_share_67 (lv_at hl 3 rfl) ?_
          refine lv_icmp_gt (tgt := 85) hx hb dX4_share_69 (by decide) (fun c13 => ?_) (fun c13 => ?_)
          · have h := g_ift c13 h
            obtain ⟨x14, ex14⟩ : ∃ y : Int32, y = l5_5 + 1 := ⟨_, rfl⟩
            have h := g_nm ex14 h
            refine lv_iinc (v := x14) (lv' := [(5, .int x14), (8, .int x12), (4, .int x9), (7, .int l5_7), (6, .int x4), (0, .ref (G.2.2.1 2)), (1, .int a1), (2, .int a2), (3, .int a3)]) hx hb dX4_share_85 hl (k := 4) rfl (by rw [ex14]; rfl) (by decide) rfl (fun ls hl => ?_)
            obtain ⟨x15, ex15⟩ : ∃ y : Int32, y = l5_7 + 1 := ⟨_, rfl⟩
            have h := g_nm ex15 h
            refine lv_iinc (v := x15) (lv' := [(7, .int x15), (5, .int x14), (8, .int x12), (4, .int x9), (6, .int x4), (0, .ref (G.2.2.1 2)), (1, .int a1), (2, .int a2), (3, .int a3)]) hx hb dX4_share_88 hl (k := 3) rfl (by rw [ex15]; rfl) (by decide) rfl (fun ls hl => ?_)
            refine lv_goto (tgt := 27) hx hb dX4_share_91 (by decide) ?_
            exact ihL5 _ _ _ _ _ _ _ h hP hS (lv_sub hl [0, 4, 1, 3, 5, 6, 7, 8] rfl)
          · have h := g_iff c13 h
            refine lv_iload hx hb dX4_share_72 (lv_at hl 0 rfl) ?_
            refine lv_iload hx hb dX4_share_74 (lv_at hl 3 rfl) ?_
            refine lv_icmp_ne (tgt := 88) hx hb dX4_share_76 (by decide) (fun c16 => ?_) (fun c16 => ?_)
            · have h := g_iff c16 h
              obtain ⟨x17, ex17⟩ : ∃ y : Int32, y = l5_7 + 1 := ⟨_, rfl⟩
              have h := g_nm ex17 h
              refine lv_iinc (v := x17) (lv' := [(7, .int x17), (8, .int x12), (4, .int x9), (6, .int x4), (5, .int l5_5), (0, .ref (G.2.2.1 2)), (1, .int a1), (2, .int a2), (3, .int a3)]) hx hb dX4_share_88 hl (k := 2) rfl (by rw [ex17]; rfl) (by decide) rfl (fun ls hl => ?_)
              refine lv_goto (tgt := 27) hx hb dX4_share_91 (by decide) ?_
              exact ihL5 _ _ _ _ _ _ _ h hP hS (lv_sub hl [0, 3, 4, 2, 5, 6, 7, 8] rfl)
            · have h := g_ift c16 h
              refine lv_iload hx hb dX4_share_79 (lv_at hl 2 rfl) ?_
              refine lv_iload_n hx hb dX4_share_81 rfl (lv_at hl 6 rfl) ?_
              refine lv_icmp_ge (tgt := 88) hx hb dX4_share_82 (by decide) (fun c18 => ?_) (fun c18 => ?_)
              · have h := g_ift c18 h
                obtain ⟨x19, ex19⟩ : ∃ y : Int32, y = l5_7 + 1 := ⟨_, rfl⟩
                have h := g_nm ex19 h
                refine lv_iinc (v := x19) (lv' := [(7, .int x19), (8, .int x12), (4, .int x9), (6, .int x4), (5, .int l5_5), (0, .ref (G.2.2.1 2)), (1, .int a1), (2, .int a2), (3, .int a3)]) hx hb dX4_share_88 hl (k := 2) rfl (by rw [ex19]; rfl) (by decide) rfl (fun ls hl => ?_)
                refine lv_goto (tgt := 27) hx hb dX4_share_91 (by decide) ?_
                exact ihL5 _ _ _ _ _ _ _ h hP hS (lv_sub hl [0, 3, 4, 2, 5, 6, 7, 8] rfl)
              · have h := g_iff c18 h
                obtain ⟨x20, ex20⟩ : ∃ y : Int32, y = l5_5 + 1 := ⟨_, rfl⟩
                have h := g_nm ex20 h
                refine lv_iinc (v := x20) (lv' := [(5, .int x20), (8, .int x12), (4, .int x9), (7, .int l5_7), (6, .int x4), (0, .ref (G.2.2.1 2)), (1, .int a1), (2, .int a2), (3, .int a3)]) hx hb dX4_share_85 hl (k := 4) rfl (by rw [ex20]; rfl) (by decide) rfl (fun ls hl => ?_)
                obtain ⟨x21, ex21⟩ : ∃ y : Int32, y = l5_7 + 1 := ⟨_, rfl⟩
                have h := g_nm ex21 h
                refine lv_iinc (v := x21) (lv' := [(7, .int x21), (5, .int x20), (8, .int x12), (4, .int x9), (6, .int x4), (0, .ref (G.2.2.1 2)), (1, .int a1), (2, .int a2), (3, .int a3)]) hx hb dX4_share_88 hl (k := 3) rfl (by rw [ex21]; rfl) (by decide) rfl (fun ls hl => ?_)
                refine lv_goto (tgt := 27) hx hb dX4_share_91 (by decide) ?_
                exact ihL5 _ _ _ _ _ _ _ h hP hS (lv_sub hl [0, 4, 1, 3, 5, 6, 7, 8] rfl)
    refine LPL5 _ (fun z22 z23 z24 σ25 H locs ls h hP hS hl => ?_) gFu _ _ _ _ _ _ _ h hP hS (lv_sub hl [0, 1, 2, 3, 4, 5, 6, 7] rfl)
    refine lv_aload_n hx hb dX4_share_94 rfl (lv_at hl 4 rfl) ?_
    refine g_get hx hb ht hown hE hP (by decide) gE_2 uX4 rfl 1 (by decide) m_69 rfl rfl dX4_share_95 ?_
    refine lv_iload_n hx hb dX4_share_98 rfl (lv_at hl 5 rfl) ?_
    obtain ⟨i26, h⟩ := g_ix h
    refine g_iald hx hb hE hP (by decide) rfl (by decide) i26 dX4_share_99 ?_
    refine lv_iload_n hx hb dX4_share_100 rfl (lv_at hl 6 rfl) ?_
    refine lv_imul hx hb dX4_share_101 ?_
    refine lv_iload_n hx hb dX4_share_102 rfl (lv_at hl 7 rfl) ?_
    obtain ⟨d27, h⟩ := g_gd h
    refine lv_idiv hx hb dX4_share_103 d27 ?_
    refine lv_iload hx hb dX4_share_104 (lv_at hl 2 rfl) ?_
    refine lv_iload hx hb dX4_share_106 (lv_at hl 3 rfl) ?_
    refine lv_icmp_ge (tgt := 115) hx hb dX4_share_108 (by decide) (fun c28 => ?_) (fun c28 => ?_)
    · have h := g_ift c28 h
      refine lv_iconst (v := 0) hx hb dX4_share_115 (by decide) ?_
      refine lv_iadd hx hb dX4_share_116 ?_
      exact g_iret hx hb hr hlk hE hP hS h dX4_share_117
    · have h := g_iff c28 h
      refine lv_iconst (v := 1) hx hb dX4_share_111 (by decide) ?_
      refine lv_goto (tgt := 116) hx hb dX4_share_112 (by decide) ?_
      refine lv_iadd hx hb dX4_share_116 ?_
      exact g_iret hx hb hr hlk hE hP hS h dX4_share_117
  · have h := g_iff c1 h
    refine lv_iconst (v := 0) hx hb dX4_share_4 (by decide) ?_
    exact g_iret hx hb hr hlk hE hP hS h dX4_share_5

def M_X5_has (a1 : Int32) (σ : gSt) : gO :=
  if a1 < 0 then (some (0, σ)) else (if (σ 11 0) ≤ a1 then (some (0, σ)) else (some (1, σ)))
set_option maxHeartbeats 4000000 in
set_option maxRecDepth 100000 in
theorem c_X5_has (l : Launch) (G : gPar) (a1 : Int32) (σ : gSt) {r : Int32} {σ' : gSt} (h : M_X5_has a1 σ = some (r, σ')) : gC l G yX5_has cX5_has 2 (some .boolean) 0 0 [.ref (G.2.2.1 11), .int a1] σ r σ' := by
  refine gC_of (by decide) (Nat.le_of_ble_eq_true rfl) ?_
  intro p e s m below meth c hx hb hr ht hown hlk hml hE hP ls hl
  have hS : va_S (gA G) s.heap s.heap [] := va_S.rf
  have hl : lv_has ls 2 [(0, .ref (G.2.2.1 11)), (1, .int a1)] := hl
  unfold M_X5_has at h
  refine lv_iload_n hx hb dX5_has_0 rfl (lv_at hl 1 rfl) ?_
  refine lv_if_lt (tgt := 16) hx hb dX5_has_1 (by decide) (fun c1 => ?_) (fun c1 => ?_)
  · have h := g_ift c1 h
    refine lv_iconst (v := 0) hx hb dX5_has_16 (by decide) ?_
    exact g_zret hx hb hr hlk hE hP hS (by decide) h dX5_has_17
  · have h := g_iff c1 h
    refine lv_iload_n hx hb dX5_has_4 rfl (lv_at hl 1 rfl) ?_
    refine lv_aload_n hx hb dX5_has_5 rfl (lv_at hl 0 rfl) ?_
    refine g_get hx hb ht hown hE hP (by decide) gE_11 uX5 rfl 0 (by decide) m_86 rfl rfl dX5_has_6 ?_
    refine lv_icmp_ge (tgt := 16) hx hb dX5_has_9 (by decide) (fun c2 => ?_) (fun c2 => ?_)
    · have h := g_ift c2 h
      refine lv_iconst (v := 0) hx hb dX5_has_16 (by decide) ?_
      exact g_zret hx hb hr hlk hE hP hS (by decide) h dX5_has_17
    · have h := g_iff c2 h
      refine lv_iconst (v := 1) hx hb dX5_has_12 (by decide) ?_
      refine lv_goto (tgt := 17) hx hb dX5_has_13 (by decide) ?_
      exact g_zret hx hb hr hlk hE hP hS (by decide) h dX5_has_17

def M_X5_add (a1 a2 a3 : Int32) (σ : gSt) : gO :=
  gIx 10 (σ 11 0) (gNm (gUp σ 12 (σ 11 0).toNatClampNeg a1) (fun σ2 => gIx 10 (σ2 11 0) (gNm (gUp σ2 13 (σ2 11 0).toNatClampNeg a2) (fun σ4 => gIx 10 (σ4 11 0) (gNm (gUp σ4 14 (σ4 11 0).toNatClampNeg a3) (fun σ6 => gIx 10 (σ6 11 0) (gNm (gUp σ6 15 (σ6 11 0).toNatClampNeg (-1)) (fun σ8 => gIx 10 (σ8 11 0) (gNm (gUp σ8 16 (σ8 11 0).toNatClampNeg 0) (fun σ10 => gNm (gUp σ10 11 0 ((σ10 11 0) + 1)) (fun σ11 => some (((σ11 11 0) - 1), σ11))))))))))))
set_option maxHeartbeats 4000000 in
set_option maxRecDepth 100000 in
theorem c_X5_add (l : Launch) (G : gPar) (a1 a2 a3 : Int32) (σ : gSt) {r : Int32} {σ' : gSt} (h : M_X5_add a1 a2 a3 σ = some (r, σ')) : gC l G yX5_add cX5_add 4 (some .int) 0 0 [.ref (G.2.2.1 11), .int a1, .int a2, .int a3] σ r σ' := by
  refine gC_of (by decide) (Nat.le_of_ble_eq_true rfl) ?_
  intro p e s m below meth c hx hb hr ht hown hlk hml hE hP ls hl
  have hS : va_S (gA G) s.heap s.heap [] := va_S.rf
  have hl : lv_has ls 4 [(0, .ref (G.2.2.1 11)), (1, .int a1), (2, .int a2), (3, .int a3)] := hl
  unfold M_X5_add at h
  refine lv_aload_n hx hb dX5_add_0 rfl (lv_at hl 0 rfl) ?_
  refine g_get hx hb ht hown hE hP (by decide) gE_11 uX5 rfl 1 (by decide) m_89 rfl rfl dX5_add_1 ?_
  refine lv_aload_n hx hb dX5_add_4 rfl (lv_at hl 0 rfl) ?_
  refine g_get hx hb ht hown hE hP (by decide) gE_11 uX5 rfl 0 (by decide) m_86 rfl rfl dX5_add_5 ?_
  refine lv_iload_n hx hb dX5_add_8 rfl (lv_at hl 1 rfl) ?_
  obtain ⟨i1, h⟩ := g_ix h
  refine g_iast hx hb hE hP hS (by decide) rfl (by decide) i1 dX5_add_9 (fun H locs σ2 eσ2 hP hS => ?_)
  have h := g_nm eσ2 h
  refine lv_aload_n hx hb dX5_add_10 rfl (lv_at hl 0 rfl) ?_
  refine g_get hx hb ht hown hE hP (by decide) gE_11 uX5 rfl 2 (by decide) m_92 rfl rfl dX5_add_11 ?_
  refine lv_aload_n hx hb dX5_add_14 rfl (lv_at hl 0 rfl) ?_
  refine g_get hx hb ht hown hE hP (by decide) gE_11 uX5 rfl 0 (by decide) m_86 rfl rfl dX5_add_15 ?_
  refine lv_iload_n hx hb dX5_add_18 rfl (lv_at hl 2 rfl) ?_
  obtain ⟨i3, h⟩ := g_ix h
  refine g_iast hx hb hE hP hS (by decide) rfl (by decide) i3 dX5_add_19 (fun H locs σ4 eσ4 hP hS => ?_)
  have h := g_nm eσ4 h
  refine lv_aload_n hx hb dX5_add_20 rfl (lv_at hl 0 rfl) ?_
  refine g_get hx hb ht hown hE hP (by decide) gE_11 uX5 rfl 3 (by decide) m_94 rfl rfl dX5_add_21 ?_
  refine lv_aload_n hx hb dX5_add_24 rfl (lv_at hl 0 rfl) ?_
  refine g_get hx hb ht hown hE hP (by decide) gE_11 uX5 rfl 0 (by decide) m_86 rfl rfl dX5_add_25 ?_
  refine lv_iload_n hx hb dX5_add_28 rfl (lv_at hl 3 rfl) ?_
  obtain ⟨i5, h⟩ := g_ix h
  refine g_iast hx hb hE hP hS (by decide) rfl (by decide) i5 dX5_add_29 (fun H locs σ6 eσ6 hP hS => ?_)
  have h := g_nm eσ6 h
  refine lv_aload_n hx hb dX5_add_30 rfl (lv_at hl 0 rfl) ?_
  refine g_get hx hb ht hown hE hP (by decide) gE_11 uX5 rfl 4 (by decide) m_96 rfl rfl dX5_add_31 ?_
  refine lv_aload_n hx hb dX5_add_34 rfl (lv_at hl 0 rfl) ?_
  refine g_get hx hb ht hown hE hP (by decide) gE_11 uX5 rfl 0 (by decide) m_86 rfl rfl dX5_add_35 ?_
  refine lv_iconst (v := (-1)) hx hb dX5_add_38 (by decide) ?_
  obtain ⟨i7, h⟩ := g_ix h
  refine g_iast hx hb hE hP hS (by decide) rfl (by decide) i7 dX5_add_39 (fun H locs σ8 eσ8 hP hS => ?_)
  have h := g_nm eσ8 h
  refine lv_aload_n hx hb dX5_add_40 rfl (lv_at hl 0 rfl) ?_
  refine g_get hx hb ht hown hE hP (by decide) gE_11 uX5 rfl 5 (by decide) m_99 rfl rfl dX5_add_41 ?_
  refine lv_aload_n hx hb dX5_add_44 rfl (lv_at hl 0 rfl) ?_
  refine g_get hx hb ht hown hE hP (by decide) gE_11 uX5 rfl 0 (by decide) m_86 rfl rfl dX5_add_45 ?_
  refine lv_iconst (v := 0) hx hb dX5_add_48 (by decide) ?_
  obtain ⟨i9, h⟩ := g_ix h
  refine g_iast hx hb hE hP hS (by decide) rfl (by decide) i9 dX5_add_49 (fun H locs σ10 eσ10 hP hS => ?_)
  have h := g_nm eσ10 h
  refine lv_aload_n hx hb dX5_add_50 rfl (lv_at hl 0 rfl) ?_
  refine lv_dup hx hb dX5_add_51 rfl ?_
  refine g_get hx hb ht hown hE hP (by decide) gE_11 uX5 rfl 0 (by decide) m_86 rfl rfl dX5_add_52 ?_
  refine lv_iconst (v := 1) hx hb dX5_add_55 (by decide) ?_
  refine lv_iadd hx hb dX5_add_56 ?_
  refine g_put hx hb ht hown hE hP hS (by decide) gE_11 uX5 tyX5_ok nmX5 rfl 0 (by decide) m_86 rfl rfl rfl rfl rfl (Nat.le_of_ble_eq_true rfl) rfl dX5_add_57 (fun H locs σ11 eσ11 hP hS => ?_)
  have h := g_nm eσ11 h
  refine lv_aload_n hx hb dX5_add_60 rfl (lv_at hl 0 rfl) ?_
  refine g_get hx hb ht hown hE hP (by decide) gE_11 uX5 rfl 0 (by decide) m_86 rfl rfl dX5_add_61 ?_
  refine lv_iconst (v := 1) hx hb dX5_add_64 (by decide) ?_
  refine lv_isub hx hb dX5_add_65 ?_
  exact g_iret hx hb hr hlk hE hP hS h dX5_add_66

def L3_X5_isOf (a1 a2 : Int32) : Nat → Int32 → Int32 → gSt → (Int32 → Int32 → gSt → gO) → gO
  | 0, _, _, _, _ => none
  | nL3 + 1, l3_4, l3_3, σL3, kL3 =>
    if 4 ≤ l3_4 then (kL3 l3_4 l3_3 σL3) else (if l3_3 < 0 then (kL3 l3_4 l3_3 σL3) else (if l3_3 = a2 then (some (1, σL3)) else (gIx 4 l3_3 (gNm ((gKO (l3_3 : Int32).toNatClampNeg)) (fun x8 => gNm (l3_4 + 1) (fun x9 => L3_X5_isOf a1 a2 nL3 x9 x8 σL3 kL3))))))
def M_X5_isOf (a1 a2 : Int32) (σ : gSt) : gO :=
  gIx 10 a1 (gNm ((σ 12 a1.toNatClampNeg)) (fun x2 => L3_X5_isOf a1 a2 gFu 0 x2 σ (fun z10 z11 σ12 => some (0, σ12))))
set_option maxHeartbeats 4000000 in
set_option maxRecDepth 100000 in
theorem c_X5_isOf (l : Launch) (G : gPar) (a1 a2 : Int32) (σ : gSt) {r : Int32} {σ' : gSt} (h : M_X5_isOf a1 a2 σ = some (r, σ')) : gC l G yX5_isOf cX5_isOf 5 (some .boolean) 0 0 [.ref (G.2.2.1 11), .int a1, .int a2] σ r σ' := by
  refine gC_of (by decide) (Nat.le_of_ble_eq_true rfl) ?_
  intro p e s m below meth c hx hb hr ht hown hlk hml hE hP ls hl
  have hS : va_S (gA G) s.heap s.heap [] := va_S.rf
  have hl : lv_has ls 5 [(0, .ref (G.2.2.1 11)), (1, .int a1), (2, .int a2)] := hl
  unfold M_X5_isOf at h
  refine lv_aload_n hx hb dX5_isOf_0 rfl (lv_at hl 0 rfl) ?_
  refine g_get hx hb ht hown hE hP (by decide) gE_11 uX5 rfl 1 (by decide) m_89 rfl rfl dX5_isOf_1 ?_
  refine lv_iload_n hx hb dX5_isOf_4 rfl (lv_at hl 1 rfl) ?_
  obtain ⟨i1, h⟩ := g_ix h
  refine g_iald hx hb hE hP (by decide) rfl (by decide) i1 dX5_isOf_5 ?_
  refine lv_topi (fun x2 ex2 => ?_)
  have h := g_nm ex2 h
  refine lv_istore_n (lv' := [(3, .int x2), (0, .ref (G.2.2.1 11)), (1, .int a1), (2, .int a2)]) hx hb dX5_isOf_6 rfl hl (by decide) rfl (fun ls hl => ?_)
  refine lv_iconst (v := 0) hx hb dX5_isOf_7 (by decide) ?_
  refine lv_istore (lv' := [(4, .int 0), (3, .int x2), (0, .ref (G.2.2.1 11)), (1, .int a1), (2, .int a2)]) hx hb dX5_isOf_8 hl (by decide) rfl (fun ls hl => ?_)
  have LPL3 : ∀ (kL3 : Int32 → Int32 → gSt → gO), (∀ (l3_4 l3_3 : Int32) (σL3 : gSt) (H : Heap) (locs : List Loc) (ls : Array Slot), kL3 l3_4 l3_3 σL3 = some (r, σ') → gW G σL3 H → va_S (gA G) s.heap H locs → lv_has ls 5 [(4, .int l3_4), (3, .int l3_3), (0, .ref (G.2.2.1 11)), (1, .int a1), (2, .int a2)] → W p l e (gRm 0 0) s m ([.ref (G.2.2.1 11), .int a1, .int a2].toArray) below meth c H locs 0 0 (MQ below (gQ G r σ') ([.ref (G.2.2.1 11), .int a1, .int a2].toArray) s 0 0 (gA G)) (F0 m 42 ls [])) → ∀ (nL3 : Nat) (l3_4 l3_3 : Int32) (σL3 : gSt) (H : Heap) (locs : List Loc) (ls : Array Slot), L3_X5_isOf a1 a2 nL3 l3_4 l3_3 σL3 kL3 = some (r, σ') → gW G σL3 H → va_S (gA G) s.heap H locs → lv_has ls 5 [(4, .int l3_4), (3, .int l3_3), (0, .ref (G.2.2.1 11)), (1, .int a1), (2, .int a2)] → W p l e (gRm 0 0) s m ([.ref (G.2.2.1 11), .int a1, .int a2].toArray) below meth c H locs 0 0 (MQ below (gQ G r σ') ([.ref (G.2.2.1 11), .int a1, .int a2].toArray) s 0 0 (gA G)) (F0 m 10 ls []) := by
    intro kL3 hKL3 nL3
    induction nL3 with
    | zero =>
      intro l3_4 l3_3 σL3 H locs ls h
      cases h
    | succ nL3 ihL3 =>
      intro l3_4 l3_3 σL3 H locs ls h hP hS hl
      rw [L3_X5_isOf] at h
      refine lv_iload hx hb dX5_isOf_10 (lv_at hl 0 rfl) ?_
      refine g_kget hx hb ht hown hE hS m_405 dX5_isOf_12 ?_
      refine g_klen hx hb hE hS dX5_isOf_15 ?_
      refine lv_icmp_ge (tgt := 42) hx hb dX5_isOf_16 (by decide) (fun c4 => ?_) (fun c4 => ?_)
      · have h := g_ift c4 h
        exact hKL3 _ _ _ _ _ _ h hP hS (lv_sub hl [0, 1, 2, 3, 4] rfl)
      · have h := g_iff c4 h
        refine lv_iload_n hx hb dX5_isOf_19 rfl (lv_at hl 1 rfl) ?_
        refine lv_if_lt (tgt := 42) hx hb dX5_isOf_20 (by decide) (fun c5 => ?_) (fun c5 => ?_)
        · have h := g_ift c5 h
          exact hKL3 _ _ _ _ _ _ h hP hS (lv_sub hl [0, 1, 2, 3, 4] rfl)
        · have h := g_iff c5 h
          refine lv_iload_n hx hb dX5_isOf_23 rfl (lv_at hl 1 rfl) ?_
          refine lv_iload_n hx hb dX5_isOf_24 rfl (lv_at hl 4 rfl) ?_
          refine lv_icmp_ne (tgt := 30) hx hb dX5_isOf_25 (by decide) (fun c6 => ?_) (fun c6 => ?_)
          · have h := g_iff c6 h
            refine g_kget hx hb ht hown hE hS m_405 dX5_isOf_30 ?_
            refine lv_iload_n hx hb dX5_isOf_33 rfl (lv_at hl 1 rfl) ?_
            obtain ⟨i7, h⟩ := g_ix h
            refine g_kald hx hb hE hS i7 dX5_isOf_34 ?_
            refine lv_topi (fun x8 ex8 => ?_)
            have h := g_nm ex8 h
            refine lv_istore_n (lv' := [(3, .int x8), (4, .int l3_4), (0, .ref (G.2.2.1 11)), (1, .int a1), (2, .int a2)]) hx hb dX5_isOf_35 rfl hl (by decide) rfl (fun ls hl => ?_)
            obtain ⟨x9, ex9⟩ : ∃ y : Int32, y = l3_4 + 1 := ⟨_, rfl⟩
            have h := g_nm ex9 h
            refine lv_iinc (v := x9) (lv' := [(4, .int x9), (3, .int x8), (0, .ref (G.2.2.1 11)), (1, .int a1), (2, .int a2)]) hx hb dX5_isOf_36 hl (k := 1) rfl (by rw [ex9]; rfl) (by decide) rfl (fun ls hl => ?_)
            refine lv_goto (tgt := 10) hx hb dX5_isOf_39 (by decide) ?_
            exact ihL3 _ _ _ _ _ _ h hP hS (lv_sub hl [0, 1, 2, 3, 4] rfl)
          · have h := g_ift c6 h
            refine lv_iconst (v := 1) hx hb dX5_isOf_28 (by decide) ?_
            exact g_zret hx hb hr hlk hE hP hS (by decide) h dX5_isOf_29
  refine LPL3 _ (fun z10 z11 σ12 H locs ls h hP hS hl => ?_) gFu _ _ _ _ _ _ h hP hS (lv_sub hl [0, 1, 2, 3, 4] rfl)
  refine lv_iconst (v := 0) hx hb dX5_isOf_42 (by decide) ?_
  exact g_zret hx hb hr hlk hE hP hS (by decide) h dX5_isOf_43

def L1_X5_comesTo (a1 a2 : Int32) : Nat → Int32 → Int32 → gSt → (Int32 → Int32 → gSt → gO) → gO
  | 0, _, _, _, _ => none
  | nL1 + 1, l1_4, l1_3, σL1, kL1 =>
    if 10 ≤ l1_4 then (kL1 l1_4 l1_3 σL1) else (gBd (M_X5_has l1_3 σL1) (fun r4 σ3 => if r4 = 0 then (kL1 l1_4 l1_3 σ3) else (if l1_3 = a2 then (some (1, σ3)) else (gIx 10 l1_3 (gNm ((σ3 15 l1_3.toNatClampNeg)) (fun x8 => gNm (l1_4 + 1) (fun x9 => L1_X5_comesTo a1 a2 nL1 x9 x8 σ3 kL1)))))))
def M_X5_comesTo (a1 a2 : Int32) (σ : gSt) : gO :=
  L1_X5_comesTo a1 a2 gFu 0 a1 σ (fun z10 z11 σ12 => some (0, σ12))
set_option maxHeartbeats 4000000 in
set_option maxRecDepth 100000 in
theorem c_X5_comesTo (l : Launch) (G : gPar) (a1 a2 : Int32) (σ : gSt) {r : Int32} {σ' : gSt} (h : M_X5_comesTo a1 a2 σ = some (r, σ')) : gC l G yX5_comesTo cX5_comesTo 5 (some .boolean) 1 21 [.ref (G.2.2.1 11), .int a1, .int a2] σ r σ' := by
  refine gC_of (by decide) (Nat.le_of_ble_eq_true rfl) ?_
  intro p e s m below meth c hx hb hr ht hown hlk hml hE hP ls hl
  have hS : va_S (gA G) s.heap s.heap [] := va_S.rf
  have hl : lv_has ls 5 [(0, .ref (G.2.2.1 11)), (1, .int a1), (2, .int a2)] := hl
  unfold M_X5_comesTo at h
  refine lv_iload_n hx hb dX5_comesTo_0 rfl (lv_at hl 1 rfl) ?_
  refine lv_istore_n (lv' := [(3, .int a1), (0, .ref (G.2.2.1 11)), (1, .int a1), (2, .int a2)]) hx hb dX5_comesTo_1 rfl hl (by decide) rfl (fun ls hl => ?_)
  refine lv_iconst (v := 0) hx hb dX5_comesTo_2 (by decide) ?_
  refine lv_istore (lv' := [(4, .int 0), (3, .int a1), (0, .ref (G.2.2.1 11)), (1, .int a1), (2, .int a2)]) hx hb dX5_comesTo_3 hl (by decide) rfl (fun ls hl => ?_)
  have LPL1 : ∀ (kL1 : Int32 → Int32 → gSt → gO), (∀ (l1_4 l1_3 : Int32) (σL1 : gSt) (H : Heap) (locs : List Loc) (ls : Array Slot), kL1 l1_4 l1_3 σL1 = some (r, σ') → gW G σL1 H → va_S (gA G) s.heap H locs → lv_has ls 5 [(4, .int l1_4), (3, .int l1_3), (0, .ref (G.2.2.1 11)), (1, .int a1), (2, .int a2)] → W p l e (gRm 1 21) s m ([.ref (G.2.2.1 11), .int a1, .int a2].toArray) below meth c H locs 0 0 (MQ below (gQ G r σ') ([.ref (G.2.2.1 11), .int a1, .int a2].toArray) s 0 0 (gA G)) (F0 m 40 ls [])) → ∀ (nL1 : Nat) (l1_4 l1_3 : Int32) (σL1 : gSt) (H : Heap) (locs : List Loc) (ls : Array Slot), L1_X5_comesTo a1 a2 nL1 l1_4 l1_3 σL1 kL1 = some (r, σ') → gW G σL1 H → va_S (gA G) s.heap H locs → lv_has ls 5 [(4, .int l1_4), (3, .int l1_3), (0, .ref (G.2.2.1 11)), (1, .int a1), (2, .int a2)] → W p l e (gRm 1 21) s m ([.ref (G.2.2.1 11), .int a1, .int a2].toArray) below meth c H locs 0 0 (MQ below (gQ G r σ') ([.ref (G.2.2.1 11), .int a1, .int a2].toArray) s 0 0 (gA G)) (F0 m 5 ls []) := by
    intro kL1 hKL1 nL1
    induction nL1 with
    | zero =>
      intro l1_4 l1_3 σL1 H locs ls h
      cases h
    | succ nL1 ihL1 =>
      intro l1_4 l1_3 σL1 H locs ls h hP hS hl
      rw [L1_X5_comesTo] at h
      refine lv_iload hx hb dX5_comesTo_5 (lv_at hl 0 rfl) ?_
      refine lv_bipush (v := 10) hx hb dX5_comesTo_7 (by decide) ?_
      refine lv_icmp_ge (tgt := 40) hx hb dX5_comesTo_9 (by decide) (fun c2 => ?_) (fun c2 => ?_)
      · have h := g_ift c2 h
        exact hKL1 _ _ _ _ _ _ h hP hS (lv_sub hl [0, 1, 2, 3, 4] rfl)
      · have h := g_iff c2 h
        refine lv_aload_n hx hb dX5_comesTo_12 rfl (lv_at hl 2 rfl) ?_
        refine lv_iload_n hx hb dX5_comesTo_13 rfl (lv_at hl 1 rfl) ?_
        obtain ⟨r4, σ3, hcr4, h⟩ := g_bd h
        refine g_callV (As := [.int l1_3]) (n := 1) hx hb hml hown ht (c_X5_has l G _ _ hcr4) m_416 m_398 m_399 m_33 m_400 (by decide +kernel) (by decide) gE_11 rfl hE hP hS (fun _ h => h) (fun _ _ h => h) rfl hl.1 rfl (Nat.le_of_ble_eq_true rfl) dX5_comesTo_14 ⟨by decide, by decide⟩ ⟨Nat.zero_le _, Nat.zero_le _⟩ (fun H locs hP hS => ?_)
        refine lv_if_eq (tgt := 40) hx hb dX5_comesTo_17 (by decide) (fun c5 => ?_) (fun c5 => ?_)
        · have h := g_ift c5 h
          exact hKL1 _ _ _ _ _ _ h hP hS (lv_sub hl [0, 1, 2, 3, 4] rfl)
        · have h := g_iff c5 h
          refine lv_iload_n hx hb dX5_comesTo_20 rfl (lv_at hl 1 rfl) ?_
          refine lv_iload_n hx hb dX5_comesTo_21 rfl (lv_at hl 4 rfl) ?_
          refine lv_icmp_ne (tgt := 27) hx hb dX5_comesTo_22 (by decide) (fun c6 => ?_) (fun c6 => ?_)
          · have h := g_iff c6 h
            refine lv_aload_n hx hb dX5_comesTo_27 rfl (lv_at hl 2 rfl) ?_
            refine g_get hx hb ht hown hE hP (by decide) gE_11 uX5 rfl 4 (by decide) m_96 rfl rfl dX5_comesTo_28 ?_
            refine lv_iload_n hx hb dX5_comesTo_31 rfl (lv_at hl 1 rfl) ?_
            obtain ⟨i7, h⟩ := g_ix h
            refine g_iald hx hb hE hP (by decide) rfl (by decide) i7 dX5_comesTo_32 ?_
            refine lv_topi (fun x8 ex8 => ?_)
            have h := g_nm ex8 h
            refine lv_istore_n (lv' := [(3, .int x8), (4, .int l1_4), (0, .ref (G.2.2.1 11)), (1, .int a1), (2, .int a2)]) hx hb dX5_comesTo_33 rfl hl (by decide) rfl (fun ls hl => ?_)
            obtain ⟨x9, ex9⟩ : ∃ y : Int32, y = l1_4 + 1 := ⟨_, rfl⟩
            have h := g_nm ex9 h
            refine lv_iinc (v := x9) (lv' := [(4, .int x9), (3, .int x8), (0, .ref (G.2.2.1 11)), (1, .int a1), (2, .int a2)]) hx hb dX5_comesTo_34 hl (k := 1) rfl (by rw [ex9]; rfl) (by decide) rfl (fun ls hl => ?_)
            refine lv_goto (tgt := 5) hx hb dX5_comesTo_37 (by decide) ?_
            exact ihL1 _ _ _ _ _ _ h hP hS (lv_sub hl [0, 1, 2, 3, 4] rfl)
          · have h := g_ift c6 h
            refine lv_iconst (v := 1) hx hb dX5_comesTo_25 (by decide) ?_
            exact g_zret hx hb hr hlk hE hP hS (by decide) h dX5_comesTo_26
  refine LPL1 _ (fun z10 z11 σ12 H locs ls h hP hS hl => ?_) gFu _ _ _ _ _ _ h hP hS (lv_sub hl [0, 1, 2, 3, 4] rfl)
  refine lv_iconst (v := 0) hx hb dX5_comesTo_40 (by decide) ?_
  exact g_zret hx hb hr hlk hE hP hS (by decide) h dX5_comesTo_41

def M_X5_follow (a1 a2 a3 : Int32) (σ : gSt) : gO :=
  gIx 10 a1 (gNm ((σ 15 a1.toNatClampNeg)) (fun x2 => gIx 10 a1 (gNm (gUp σ 15 a1.toNatClampNeg a2) (fun σ4 => gIx 10 a1 (gNm (gUp σ4 16 a1.toNatClampNeg a3) (fun σ6 => some (x2, σ6)))))))
set_option maxHeartbeats 4000000 in
set_option maxRecDepth 100000 in
theorem c_X5_follow (l : Launch) (G : gPar) (a1 a2 a3 : Int32) (σ : gSt) {r : Int32} {σ' : gSt} (h : M_X5_follow a1 a2 a3 σ = some (r, σ')) : gC l G yX5_follow cX5_follow 5 (some .int) 0 0 [.ref (G.2.2.1 11), .int a1, .int a2, .int a3] σ r σ' := by
  refine gC_of (by decide) (Nat.le_of_ble_eq_true rfl) ?_
  intro p e s m below meth c hx hb hr ht hown hlk hml hE hP ls hl
  have hS : va_S (gA G) s.heap s.heap [] := va_S.rf
  have hl : lv_has ls 5 [(0, .ref (G.2.2.1 11)), (1, .int a1), (2, .int a2), (3, .int a3)] := hl
  unfold M_X5_follow at h
  refine lv_aload_n hx hb dX5_follow_0 rfl (lv_at hl 0 rfl) ?_
  refine g_get hx hb ht hown hE hP (by decide) gE_11 uX5 rfl 4 (by decide) m_96 rfl rfl dX5_follow_1 ?_
  refine lv_iload_n hx hb dX5_follow_4 rfl (lv_at hl 1 rfl) ?_
  obtain ⟨i1, h⟩ := g_ix h
  refine g_iald hx hb hE hP (by decide) rfl (by decide) i1 dX5_follow_5 ?_
  refine lv_topi (fun x2 ex2 => ?_)
  have h := g_nm ex2 h
  refine lv_istore (lv' := [(4, .int x2), (0, .ref (G.2.2.1 11)), (1, .int a1), (2, .int a2), (3, .int a3)]) hx hb dX5_follow_6 hl (by decide) rfl (fun ls hl => ?_)
  refine lv_aload_n hx hb dX5_follow_8 rfl (lv_at hl 1 rfl) ?_
  refine g_get hx hb ht hown hE hP (by decide) gE_11 uX5 rfl 4 (by decide) m_96 rfl rfl dX5_follow_9 ?_
  refine lv_iload_n hx hb dX5_follow_12 rfl (lv_at hl 2 rfl) ?_
  refine lv_iload_n hx hb dX5_follow_13 rfl (lv_at hl 3 rfl) ?_
  obtain ⟨i3, h⟩ := g_ix h
  refine g_iast hx hb hE hP hS (by decide) rfl (by decide) i3 dX5_follow_14 (fun H locs σ4 eσ4 hP hS => ?_)
  have h := g_nm eσ4 h
  refine lv_aload_n hx hb dX5_follow_15 rfl (lv_at hl 1 rfl) ?_
  refine g_get hx hb ht hown hE hP (by decide) gE_11 uX5 rfl 5 (by decide) m_99 rfl rfl dX5_follow_16 ?_
  refine lv_iload_n hx hb dX5_follow_19 rfl (lv_at hl 2 rfl) ?_
  refine lv_iload_n hx hb dX5_follow_20 rfl (lv_at hl 4 rfl) ?_
  obtain ⟨i5, h⟩ := g_ix h
  refine g_iast hx hb hE hP hS (by decide) rfl (by decide) i5 dX5_follow_21 (fun H locs σ6 eσ6 hP hS => ?_)
  have h := g_nm eσ6 h
  refine lv_iload hx hb dX5_follow_22 (lv_at hl 0 rfl) ?_
  exact g_iret hx hb hr hlk hE hP hS h dX5_follow_24

def M_X5_isWifeOf (a1 a2 : Int32) (σ : gSt) : gO :=
  gIx 10 a1 (if (σ 12 a1.toNatClampNeg) = 1 then (gIx 10 a1 (if (σ 15 a1.toNatClampNeg) = a2 then (some (1, σ)) else (some (0, σ)))) else (some (0, σ)))
set_option maxHeartbeats 4000000 in
set_option maxRecDepth 100000 in
theorem c_X5_isWifeOf (l : Launch) (G : gPar) (a1 a2 : Int32) (σ : gSt) {r : Int32} {σ' : gSt} (h : M_X5_isWifeOf a1 a2 σ = some (r, σ')) : gC l G yX5_isWifeOf cX5_isWifeOf 3 (some .boolean) 0 0 [.ref (G.2.2.1 11), .int a1, .int a2] σ r σ' := by
  refine gC_of (by decide) (Nat.le_of_ble_eq_true rfl) ?_
  intro p e s m below meth c hx hb hr ht hown hlk hml hE hP ls hl
  have hS : va_S (gA G) s.heap s.heap [] := va_S.rf
  have hl : lv_has ls 3 [(0, .ref (G.2.2.1 11)), (1, .int a1), (2, .int a2)] := hl
  unfold M_X5_isWifeOf at h
  refine lv_aload_n hx hb dX5_isWifeOf_0 rfl (lv_at hl 0 rfl) ?_
  refine g_get hx hb ht hown hE hP (by decide) gE_11 uX5 rfl 1 (by decide) m_89 rfl rfl dX5_isWifeOf_1 ?_
  refine lv_iload_n hx hb dX5_isWifeOf_4 rfl (lv_at hl 1 rfl) ?_
  obtain ⟨i1, h⟩ := g_ix h
  refine g_iald hx hb hE hP (by decide) rfl (by decide) i1 dX5_isWifeOf_5 ?_
  refine lv_iconst (v := 1) hx hb dX5_isWifeOf_6 (by decide) ?_
  refine lv_icmp_ne (tgt := 24) hx hb dX5_isWifeOf_7 (by decide) (fun c2 => ?_) (fun c2 => ?_)
  · have h := g_iff c2 h
    refine lv_iconst (v := 0) hx hb dX5_isWifeOf_24 (by decide) ?_
    exact g_zret hx hb hr hlk hE hP hS (by decide) h dX5_isWifeOf_25
  · have h := g_ift c2 h
    refine lv_aload_n hx hb dX5_isWifeOf_10 rfl (lv_at hl 0 rfl) ?_
    refine g_get hx hb ht hown hE hP (by decide) gE_11 uX5 rfl 4 (by decide) m_96 rfl rfl dX5_isWifeOf_11 ?_
    refine lv_iload_n hx hb dX5_isWifeOf_14 rfl (lv_at hl 1 rfl) ?_
    obtain ⟨i3, h⟩ := g_ix h
    refine g_iald hx hb hE hP (by decide) rfl (by decide) i3 dX5_isWifeOf_15 ?_
    refine lv_iload_n hx hb dX5_isWifeOf_16 rfl (lv_at hl 2 rfl) ?_
    refine lv_icmp_ne (tgt := 24) hx hb dX5_isWifeOf_17 (by decide) (fun c4 => ?_) (fun c4 => ?_)
    · have h := g_iff c4 h
      refine lv_iconst (v := 0) hx hb dX5_isWifeOf_24 (by decide) ?_
      exact g_zret hx hb hr hlk hE hP hS (by decide) h dX5_isWifeOf_25
    · have h := g_ift c4 h
      refine lv_iconst (v := 1) hx hb dX5_isWifeOf_20 (by decide) ?_
      refine lv_goto (tgt := 25) hx hb dX5_isWifeOf_21 (by decide) ?_
      exact g_zret hx hb hr hlk hE hP hS (by decide) h dX5_isWifeOf_25

def M_X1_has (a1 : Int32) (σ : gSt) : gO :=
  if a1 < 0 then (some (0, σ)) else (if (σ 17 0) ≤ a1 then (some (0, σ)) else (some (1, σ)))
set_option maxHeartbeats 4000000 in
set_option maxRecDepth 100000 in
theorem c_X1_has (l : Launch) (G : gPar) (a1 : Int32) (σ : gSt) {r : Int32} {σ' : gSt} (h : M_X1_has a1 σ = some (r, σ')) : gC l G yX1_has cX1_has 2 (some .boolean) 0 0 [.ref (G.2.2.1 17), .int a1] σ r σ' := by
  refine gC_of (by decide) (Nat.le_of_ble_eq_true rfl) ?_
  intro p e s m below meth c hx hb hr ht hown hlk hml hE hP ls hl
  have hS : va_S (gA G) s.heap s.heap [] := va_S.rf
  have hl : lv_has ls 2 [(0, .ref (G.2.2.1 17)), (1, .int a1)] := hl
  unfold M_X1_has at h
  refine lv_iload_n hx hb dX1_has_0 rfl (lv_at hl 1 rfl) ?_
  refine lv_if_lt (tgt := 16) hx hb dX1_has_1 (by decide) (fun c1 => ?_) (fun c1 => ?_)
  · have h := g_ift c1 h
    refine lv_iconst (v := 0) hx hb dX1_has_16 (by decide) ?_
    exact g_zret hx hb hr hlk hE hP hS (by decide) h dX1_has_17
  · have h := g_iff c1 h
    refine lv_iload_n hx hb dX1_has_4 rfl (lv_at hl 1 rfl) ?_
    refine lv_aload_n hx hb dX1_has_5 rfl (lv_at hl 0 rfl) ?_
    refine g_get hx hb ht hown hE hP (by decide) gE_17 uX1 rfl 0 (by decide) m_120 rfl rfl dX1_has_6 ?_
    refine lv_icmp_ge (tgt := 16) hx hb dX1_has_9 (by decide) (fun c2 => ?_) (fun c2 => ?_)
    · have h := g_ift c2 h
      refine lv_iconst (v := 0) hx hb dX1_has_16 (by decide) ?_
      exact g_zret hx hb hr hlk hE hP hS (by decide) h dX1_has_17
    · have h := g_iff c2 h
      refine lv_iconst (v := 1) hx hb dX1_has_12 (by decide) ?_
      refine lv_goto (tgt := 17) hx hb dX1_has_13 (by decide) ?_
      exact g_zret hx hb hr hlk hE hP hS (by decide) h dX1_has_17

def M_X1_add (a1 a2 a3 a4 a5 a6 a7 : Int32) (σ : gSt) : gO :=
  gIx 24 (σ 17 0) (gNm (gUp σ 18 (σ 17 0).toNatClampNeg a1) (fun σ2 => gIx 24 (σ2 17 0) (gNm (gUp σ2 19 (σ2 17 0).toNatClampNeg a2) (fun σ4 => gIx 24 (σ4 17 0) (gNm (gUp σ4 20 (σ4 17 0).toNatClampNeg a3) (fun σ6 => gIx 24 (σ6 17 0) (gNm (gUp σ6 21 (σ6 17 0).toNatClampNeg a4) (fun σ8 => gIx 24 (σ8 17 0) (gNm (gUp σ8 22 (σ8 17 0).toNatClampNeg a5) (fun σ10 => gIx 24 (σ10 17 0) (gNm (gUp σ10 23 (σ10 17 0).toNatClampNeg a6) (fun σ12 => gIx 24 (σ12 17 0) (gNm (gUp σ12 24 (σ12 17 0).toNatClampNeg a7) (fun σ14 => gIx 24 (σ14 17 0) (gNm (gUp σ14 25 (σ14 17 0).toNatClampNeg 0) (fun σ16 => gNm (gUp σ16 17 0 ((σ16 17 0) + 1)) (fun σ17 => some (((σ17 17 0) - 1), σ17))))))))))))))))))
set_option maxHeartbeats 4000000 in
set_option maxRecDepth 100000 in
theorem c_X1_add (l : Launch) (G : gPar) (a1 a2 a3 a4 a5 a6 a7 : Int32) (σ : gSt) {r : Int32} {σ' : gSt} (h : M_X1_add a1 a2 a3 a4 a5 a6 a7 σ = some (r, σ')) : gC l G yX1_add cX1_add 8 (some .int) 0 0 [.ref (G.2.2.1 17), .int a1, .int a2, .int a3, .int a4, .int a5, .int a6, .int a7] σ r σ' := by
  refine gC_of (by decide) (Nat.le_of_ble_eq_true rfl) ?_
  intro p e s m below meth c hx hb hr ht hown hlk hml hE hP ls hl
  have hS : va_S (gA G) s.heap s.heap [] := va_S.rf
  have hl : lv_has ls 8 [(0, .ref (G.2.2.1 17)), (1, .int a1), (2, .int a2), (3, .int a3), (4, .int a4), (5, .int a5), (6, .int a6), (7, .int a7)] := hl
  unfold M_X1_add at h
  refine lv_aload_n hx hb dX1_add_0 rfl (lv_at hl 0 rfl) ?_
  refine g_get hx hb ht hown hE hP (by decide) gE_17 uX1 rfl 1 (by decide) m_123 rfl rfl dX1_add_1 ?_
  refine lv_aload_n hx hb dX1_add_4 rfl (lv_at hl 0 rfl) ?_
  refine g_get hx hb ht hown hE hP (by decide) gE_17 uX1 rfl 0 (by decide) m_120 rfl rfl dX1_add_5 ?_
  refine lv_iload_n hx hb dX1_add_8 rfl (lv_at hl 1 rfl) ?_
  obtain ⟨i1, h⟩ := g_ix h
  refine g_iast hx hb hE hP hS (by decide) rfl (by decide) i1 dX1_add_9 (fun H locs σ2 eσ2 hP hS => ?_)
  have h := g_nm eσ2 h
  refine lv_aload_n hx hb dX1_add_10 rfl (lv_at hl 0 rfl) ?_
  refine g_get hx hb ht hown hE hP (by decide) gE_17 uX1 rfl 2 (by decide) m_125 rfl rfl dX1_add_11 ?_
  refine lv_aload_n hx hb dX1_add_14 rfl (lv_at hl 0 rfl) ?_
  refine g_get hx hb ht hown hE hP (by decide) gE_17 uX1 rfl 0 (by decide) m_120 rfl rfl dX1_add_15 ?_
  refine lv_iload_n hx hb dX1_add_18 rfl (lv_at hl 2 rfl) ?_
  obtain ⟨i3, h⟩ := g_ix h
  refine g_iast hx hb hE hP hS (by decide) rfl (by decide) i3 dX1_add_19 (fun H locs σ4 eσ4 hP hS => ?_)
  have h := g_nm eσ4 h
  refine lv_aload_n hx hb dX1_add_20 rfl (lv_at hl 0 rfl) ?_
  refine g_get hx hb ht hown hE hP (by decide) gE_17 uX1 rfl 3 (by decide) m_127 rfl rfl dX1_add_21 ?_
  refine lv_aload_n hx hb dX1_add_24 rfl (lv_at hl 0 rfl) ?_
  refine g_get hx hb ht hown hE hP (by decide) gE_17 uX1 rfl 0 (by decide) m_120 rfl rfl dX1_add_25 ?_
  refine lv_iload_n hx hb dX1_add_28 rfl (lv_at hl 3 rfl) ?_
  obtain ⟨i5, h⟩ := g_ix h
  refine g_iast hx hb hE hP hS (by decide) rfl (by decide) i5 dX1_add_29 (fun H locs σ6 eσ6 hP hS => ?_)
  have h := g_nm eσ6 h
  refine lv_aload_n hx hb dX1_add_30 rfl (lv_at hl 0 rfl) ?_
  refine g_get hx hb ht hown hE hP (by decide) gE_17 uX1 rfl 4 (by decide) m_129 rfl rfl dX1_add_31 ?_
  refine lv_aload_n hx hb dX1_add_34 rfl (lv_at hl 0 rfl) ?_
  refine g_get hx hb ht hown hE hP (by decide) gE_17 uX1 rfl 0 (by decide) m_120 rfl rfl dX1_add_35 ?_
  refine lv_iload hx hb dX1_add_38 (lv_at hl 4 rfl) ?_
  obtain ⟨i7, h⟩ := g_ix h
  refine g_iast hx hb hE hP hS (by decide) rfl (by decide) i7 dX1_add_40 (fun H locs σ8 eσ8 hP hS => ?_)
  have h := g_nm eσ8 h
  refine lv_aload_n hx hb dX1_add_41 rfl (lv_at hl 0 rfl) ?_
  refine g_get hx hb ht hown hE hP (by decide) gE_17 uX1 rfl 5 (by decide) m_131 rfl rfl dX1_add_42 ?_
  refine lv_aload_n hx hb dX1_add_45 rfl (lv_at hl 0 rfl) ?_
  refine g_get hx hb ht hown hE hP (by decide) gE_17 uX1 rfl 0 (by decide) m_120 rfl rfl dX1_add_46 ?_
  refine lv_iload hx hb dX1_add_49 (lv_at hl 5 rfl) ?_
  obtain ⟨i9, h⟩ := g_ix h
  refine g_iast hx hb hE hP hS (by decide) rfl (by decide) i9 dX1_add_51 (fun H locs σ10 eσ10 hP hS => ?_)
  have h := g_nm eσ10 h
  refine lv_aload_n hx hb dX1_add_52 rfl (lv_at hl 0 rfl) ?_
  refine g_get hx hb ht hown hE hP (by decide) gE_17 uX1 rfl 6 (by decide) m_133 rfl rfl dX1_add_53 ?_
  refine lv_aload_n hx hb dX1_add_56 rfl (lv_at hl 0 rfl) ?_
  refine g_get hx hb ht hown hE hP (by decide) gE_17 uX1 rfl 0 (by decide) m_120 rfl rfl dX1_add_57 ?_
  refine lv_iload hx hb dX1_add_60 (lv_at hl 6 rfl) ?_
  obtain ⟨i11, h⟩ := g_ix h
  refine g_iast hx hb hE hP hS (by decide) rfl (by decide) i11 dX1_add_62 (fun H locs σ12 eσ12 hP hS => ?_)
  have h := g_nm eσ12 h
  refine lv_aload_n hx hb dX1_add_63 rfl (lv_at hl 0 rfl) ?_
  refine g_get hx hb ht hown hE hP (by decide) gE_17 uX1 rfl 7 (by decide) m_135 rfl rfl dX1_add_64 ?_
  refine lv_aload_n hx hb dX1_add_67 rfl (lv_at hl 0 rfl) ?_
  refine g_get hx hb ht hown hE hP (by decide) gE_17 uX1 rfl 0 (by decide) m_120 rfl rfl dX1_add_68 ?_
  refine lv_iload hx hb dX1_add_71 (lv_at hl 7 rfl) ?_
  obtain ⟨i13, h⟩ := g_ix h
  refine g_iast hx hb hE hP hS (by decide) rfl (by decide) i13 dX1_add_73 (fun H locs σ14 eσ14 hP hS => ?_)
  have h := g_nm eσ14 h
  refine lv_aload_n hx hb dX1_add_74 rfl (lv_at hl 0 rfl) ?_
  refine g_get hx hb ht hown hE hP (by decide) gE_17 uX1 rfl 8 (by decide) m_137 rfl rfl dX1_add_75 ?_
  refine lv_aload_n hx hb dX1_add_78 rfl (lv_at hl 0 rfl) ?_
  refine g_get hx hb ht hown hE hP (by decide) gE_17 uX1 rfl 0 (by decide) m_120 rfl rfl dX1_add_79 ?_
  refine lv_iconst (v := 0) hx hb dX1_add_82 (by decide) ?_
  obtain ⟨i15, h⟩ := g_ix h
  refine g_iast hx hb hE hP hS (by decide) rfl (by decide) i15 dX1_add_83 (fun H locs σ16 eσ16 hP hS => ?_)
  have h := g_nm eσ16 h
  refine lv_aload_n hx hb dX1_add_84 rfl (lv_at hl 0 rfl) ?_
  refine lv_dup hx hb dX1_add_85 rfl ?_
  refine g_get hx hb ht hown hE hP (by decide) gE_17 uX1 rfl 0 (by decide) m_120 rfl rfl dX1_add_86 ?_
  refine lv_iconst (v := 1) hx hb dX1_add_89 (by decide) ?_
  refine lv_iadd hx hb dX1_add_90 ?_
  refine g_put hx hb ht hown hE hP hS (by decide) gE_17 uX1 tyX1_ok nmX1 rfl 0 (by decide) m_120 rfl rfl rfl rfl rfl (Nat.le_of_ble_eq_true rfl) rfl dX1_add_91 (fun H locs σ17 eσ17 hP hS => ?_)
  have h := g_nm eσ17 h
  refine lv_aload_n hx hb dX1_add_94 rfl (lv_at hl 0 rfl) ?_
  refine g_get hx hb ht hown hE hP (by decide) gE_17 uX1 rfl 0 (by decide) m_120 rfl rfl dX1_add_95 ?_
  refine lv_iconst (v := 1) hx hb dX1_add_98 (by decide) ?_
  refine lv_isub hx hb dX1_add_99 ?_
  exact g_iret hx hb hr hlk hE hP hS h dX1_add_100

def M_X1_isDoubted (a1 : Int32) (σ : gSt) : gO :=
  gIx 24 a1 (if (σ 25 a1.toNatClampNeg) = 1 then (some (1, σ)) else (some (0, σ)))
set_option maxHeartbeats 4000000 in
set_option maxRecDepth 100000 in
theorem c_X1_isDoubted (l : Launch) (G : gPar) (a1 : Int32) (σ : gSt) {r : Int32} {σ' : gSt} (h : M_X1_isDoubted a1 σ = some (r, σ')) : gC l G yX1_isDoubted cX1_isDoubted 2 (some .boolean) 0 0 [.ref (G.2.2.1 17), .int a1] σ r σ' := by
  refine gC_of (by decide) (Nat.le_of_ble_eq_true rfl) ?_
  intro p e s m below meth c hx hb hr ht hown hlk hml hE hP ls hl
  have hS : va_S (gA G) s.heap s.heap [] := va_S.rf
  have hl : lv_has ls 2 [(0, .ref (G.2.2.1 17)), (1, .int a1)] := hl
  unfold M_X1_isDoubted at h
  refine lv_aload_n hx hb dX1_isDoubted_0 rfl (lv_at hl 0 rfl) ?_
  refine g_get hx hb ht hown hE hP (by decide) gE_17 uX1 rfl 8 (by decide) m_137 rfl rfl dX1_isDoubted_1 ?_
  refine lv_iload_n hx hb dX1_isDoubted_4 rfl (lv_at hl 1 rfl) ?_
  obtain ⟨i1, h⟩ := g_ix h
  refine g_iald hx hb hE hP (by decide) rfl (by decide) i1 dX1_isDoubted_5 ?_
  refine lv_iconst (v := 1) hx hb dX1_isDoubted_6 (by decide) ?_
  refine lv_icmp_ne (tgt := 14) hx hb dX1_isDoubted_7 (by decide) (fun c2 => ?_) (fun c2 => ?_)
  · have h := g_iff c2 h
    refine lv_iconst (v := 0) hx hb dX1_isDoubted_14 (by decide) ?_
    exact g_zret hx hb hr hlk hE hP hS (by decide) h dX1_isDoubted_15
  · have h := g_ift c2 h
    refine lv_iconst (v := 1) hx hb dX1_isDoubted_10 (by decide) ?_
    refine lv_goto (tgt := 15) hx hb dX1_isDoubted_11 (by decide) ?_
    exact g_zret hx hb hr hlk hE hP hS (by decide) h dX1_isDoubted_15

def L1_X1_countDoubted : Nat → Int32 → Int32 → gSt → (Int32 → Int32 → gSt → gO) → gO
  | 0, _, _, _, _ => none
  | nL1 + 1, l1_2, l1_1, σL1, kL1 =>
    if (σL1 17 0) ≤ l1_2 then (kL1 l1_2 l1_1 σL1) else (gIx 24 l1_2 (gNm ((l1_1 + (σL1 25 l1_2.toNatClampNeg))) (fun x4 => gNm (l1_2 + 1) (fun x5 => L1_X1_countDoubted nL1 x5 x4 σL1 kL1))))
def M_X1_countDoubted (σ : gSt) : gO :=
  L1_X1_countDoubted gFu 0 0 σ (fun z6 z7 σ8 => some (z7, σ8))
set_option maxHeartbeats 4000000 in
set_option maxRecDepth 100000 in
theorem c_X1_countDoubted (l : Launch) (G : gPar) (σ : gSt) {r : Int32} {σ' : gSt} (h : M_X1_countDoubted σ = some (r, σ')) : gC l G yX1_countDoubted cX1_countDoubted 3 (some .int) 0 0 [.ref (G.2.2.1 17)] σ r σ' := by
  refine gC_of (by decide) (Nat.le_of_ble_eq_true rfl) ?_
  intro p e s m below meth c hx hb hr ht hown hlk hml hE hP ls hl
  have hS : va_S (gA G) s.heap s.heap [] := va_S.rf
  have hl : lv_has ls 3 [(0, .ref (G.2.2.1 17))] := hl
  unfold M_X1_countDoubted at h
  refine lv_iconst (v := 0) hx hb dX1_countDoubted_0 (by decide) ?_
  refine lv_istore_n (lv' := [(1, .int 0), (0, .ref (G.2.2.1 17))]) hx hb dX1_countDoubted_1 rfl hl (by decide) rfl (fun ls hl => ?_)
  refine lv_iconst (v := 0) hx hb dX1_countDoubted_2 (by decide) ?_
  refine lv_istore_n (lv' := [(2, .int 0), (1, .int 0), (0, .ref (G.2.2.1 17))]) hx hb dX1_countDoubted_3 rfl hl (by decide) rfl (fun ls hl => ?_)
  have LPL1 : ∀ (kL1 : Int32 → Int32 → gSt → gO), (∀ (l1_2 l1_1 : Int32) (σL1 : gSt) (H : Heap) (locs : List Loc) (ls : Array Slot), kL1 l1_2 l1_1 σL1 = some (r, σ') → gW G σL1 H → va_S (gA G) s.heap H locs → lv_has ls 3 [(2, .int l1_2), (1, .int l1_1), (0, .ref (G.2.2.1 17))] → W p l e (gRm 0 0) s m ([.ref (G.2.2.1 17)].toArray) below meth c H locs 0 0 (MQ below (gQ G r σ') ([.ref (G.2.2.1 17)].toArray) s 0 0 (gA G)) (F0 m 27 ls [])) → ∀ (nL1 : Nat) (l1_2 l1_1 : Int32) (σL1 : gSt) (H : Heap) (locs : List Loc) (ls : Array Slot), L1_X1_countDoubted nL1 l1_2 l1_1 σL1 kL1 = some (r, σ') → gW G σL1 H → va_S (gA G) s.heap H locs → lv_has ls 3 [(2, .int l1_2), (1, .int l1_1), (0, .ref (G.2.2.1 17))] → W p l e (gRm 0 0) s m ([.ref (G.2.2.1 17)].toArray) below meth c H locs 0 0 (MQ below (gQ G r σ') ([.ref (G.2.2.1 17)].toArray) s 0 0 (gA G)) (F0 m 4 ls []) := by
    intro kL1 hKL1 nL1
    induction nL1 with
    | zero =>
      intro l1_2 l1_1 σL1 H locs ls h
      cases h
    | succ nL1 ihL1 =>
      intro l1_2 l1_1 σL1 H locs ls h hP hS hl
      rw [L1_X1_countDoubted] at h
      refine lv_iload_n hx hb dX1_countDoubted_4 rfl (lv_at hl 0 rfl) ?_
      refine lv_aload_n hx hb dX1_countDoubted_5 rfl (lv_at hl 2 rfl) ?_
      refine g_get hx hb ht hown hE hP (by decide) gE_17 uX1 rfl 0 (by decide) m_120 rfl rfl dX1_countDoubted_6 ?_
      refine lv_icmp_ge (tgt := 27) hx hb dX1_countDoubted_9 (by decide) (fun c2 => ?_) (fun c2 => ?_)
      · have h := g_ift c2 h
        exact hKL1 _ _ _ _ _ _ h hP hS (lv_sub hl [0, 1, 2] rfl)
      · have h := g_iff c2 h
        refine lv_iload_n hx hb dX1_countDoubted_12 rfl (lv_at hl 1 rfl) ?_
        refine lv_aload_n hx hb dX1_countDoubted_13 rfl (lv_at hl 2 rfl) ?_
        refine g_get hx hb ht hown hE hP (by decide) gE_17 uX1 rfl 8 (by decide) m_137 rfl rfl dX1_countDoubted_14 ?_
        refine lv_iload_n hx hb dX1_countDoubted_17 rfl (lv_at hl 0 rfl) ?_
        obtain ⟨i3, h⟩ := g_ix h
        refine g_iald hx hb hE hP (by decide) rfl (by decide) i3 dX1_countDoubted_18 ?_
        refine lv_iadd hx hb dX1_countDoubted_19 ?_
        refine lv_topi (fun x4 ex4 => ?_)
        have h := g_nm ex4 h
        refine lv_istore_n (lv' := [(1, .int x4), (2, .int l1_2), (0, .ref (G.2.2.1 17))]) hx hb dX1_countDoubted_20 rfl hl (by decide) rfl (fun ls hl => ?_)
        obtain ⟨x5, ex5⟩ : ∃ y : Int32, y = l1_2 + 1 := ⟨_, rfl⟩
        have h := g_nm ex5 h
        refine lv_iinc (v := x5) (lv' := [(2, .int x5), (1, .int x4), (0, .ref (G.2.2.1 17))]) hx hb dX1_countDoubted_21 hl (k := 1) rfl (by rw [ex5]; rfl) (by decide) rfl (fun ls hl => ?_)
        refine lv_goto (tgt := 4) hx hb dX1_countDoubted_24 (by decide) ?_
        exact ihL1 _ _ _ _ _ _ h hP hS (lv_sub hl [0, 1, 2] rfl)
  refine LPL1 _ (fun z6 z7 σ8 H locs ls h hP hS hl => ?_) gFu _ _ _ _ _ _ h hP hS (lv_sub hl [0, 1, 2] rfl)
  refine lv_iload_n hx hb dX1_countDoubted_27 rfl (lv_at hl 1 rfl) ?_
  exact g_iret hx hb hr hlk hE hP hS h dX1_countDoubted_28

def M_X2_has (a1 : Int32) (σ : gSt) : gO :=
  if a1 < 0 then (some (0, σ)) else (if (σ 26 0) ≤ a1 then (some (0, σ)) else (some (1, σ)))
set_option maxHeartbeats 4000000 in
set_option maxRecDepth 100000 in
theorem c_X2_has (l : Launch) (G : gPar) (a1 : Int32) (σ : gSt) {r : Int32} {σ' : gSt} (h : M_X2_has a1 σ = some (r, σ')) : gC l G yX2_has cX2_has 2 (some .boolean) 0 0 [.ref (G.2.2.1 26), .int a1] σ r σ' := by
  refine gC_of (by decide) (Nat.le_of_ble_eq_true rfl) ?_
  intro p e s m below meth c hx hb hr ht hown hlk hml hE hP ls hl
  have hS : va_S (gA G) s.heap s.heap [] := va_S.rf
  have hl : lv_has ls 2 [(0, .ref (G.2.2.1 26)), (1, .int a1)] := hl
  unfold M_X2_has at h
  refine lv_iload_n hx hb dX2_has_0 rfl (lv_at hl 1 rfl) ?_
  refine lv_if_lt (tgt := 16) hx hb dX2_has_1 (by decide) (fun c1 => ?_) (fun c1 => ?_)
  · have h := g_ift c1 h
    refine lv_iconst (v := 0) hx hb dX2_has_16 (by decide) ?_
    exact g_zret hx hb hr hlk hE hP hS (by decide) h dX2_has_17
  · have h := g_iff c1 h
    refine lv_iload_n hx hb dX2_has_4 rfl (lv_at hl 1 rfl) ?_
    refine lv_aload_n hx hb dX2_has_5 rfl (lv_at hl 0 rfl) ?_
    refine g_get hx hb ht hown hE hP (by decide) gE_26 uX2 rfl 0 (by decide) m_164 rfl rfl dX2_has_6 ?_
    refine lv_icmp_ge (tgt := 16) hx hb dX2_has_9 (by decide) (fun c2 => ?_) (fun c2 => ?_)
    · have h := g_ift c2 h
      refine lv_iconst (v := 0) hx hb dX2_has_16 (by decide) ?_
      exact g_zret hx hb hr hlk hE hP hS (by decide) h dX2_has_17
    · have h := g_iff c2 h
      refine lv_iconst (v := 1) hx hb dX2_has_12 (by decide) ?_
      refine lv_goto (tgt := 17) hx hb dX2_has_13 (by decide) ?_
      exact g_zret hx hb hr hlk hE hP hS (by decide) h dX2_has_17

def M_X2_add (a1 a2 a3 a4 : Int32) (σ : gSt) : gO :=
  gIx 12 (σ 26 0) (gNm (gUp σ 27 (σ 26 0).toNatClampNeg a1) (fun σ2 => gIx 12 (σ2 26 0) (gNm (gUp σ2 28 (σ2 26 0).toNatClampNeg a2) (fun σ4 => gIx 12 (σ4 26 0) (gNm (gUp σ4 29 (σ4 26 0).toNatClampNeg a3) (fun σ6 => gIx 12 (σ6 26 0) (gNm (gUp σ6 30 (σ6 26 0).toNatClampNeg a4) (fun σ8 => gNm (gUp σ8 26 0 ((σ8 26 0) + 1)) (fun σ9 => some (((σ9 26 0) - 1), σ9))))))))))
set_option maxHeartbeats 4000000 in
set_option maxRecDepth 100000 in
theorem c_X2_add (l : Launch) (G : gPar) (a1 a2 a3 a4 : Int32) (σ : gSt) {r : Int32} {σ' : gSt} (h : M_X2_add a1 a2 a3 a4 σ = some (r, σ')) : gC l G yX2_add cX2_add 5 (some .int) 0 0 [.ref (G.2.2.1 26), .int a1, .int a2, .int a3, .int a4] σ r σ' := by
  refine gC_of (by decide) (Nat.le_of_ble_eq_true rfl) ?_
  intro p e s m below meth c hx hb hr ht hown hlk hml hE hP ls hl
  have hS : va_S (gA G) s.heap s.heap [] := va_S.rf
  have hl : lv_has ls 5 [(0, .ref (G.2.2.1 26)), (1, .int a1), (2, .int a2), (3, .int a3), (4, .int a4)] := hl
  unfold M_X2_add at h
  refine lv_aload_n hx hb dX2_add_0 rfl (lv_at hl 0 rfl) ?_
  refine g_get hx hb ht hown hE hP (by decide) gE_26 uX2 rfl 1 (by decide) m_166 rfl rfl dX2_add_1 ?_
  refine lv_aload_n hx hb dX2_add_4 rfl (lv_at hl 0 rfl) ?_
  refine g_get hx hb ht hown hE hP (by decide) gE_26 uX2 rfl 0 (by decide) m_164 rfl rfl dX2_add_5 ?_
  refine lv_iload_n hx hb dX2_add_8 rfl (lv_at hl 1 rfl) ?_
  obtain ⟨i1, h⟩ := g_ix h
  refine g_iast hx hb hE hP hS (by decide) rfl (by decide) i1 dX2_add_9 (fun H locs σ2 eσ2 hP hS => ?_)
  have h := g_nm eσ2 h
  refine lv_aload_n hx hb dX2_add_10 rfl (lv_at hl 0 rfl) ?_
  refine g_get hx hb ht hown hE hP (by decide) gE_26 uX2 rfl 2 (by decide) m_167 rfl rfl dX2_add_11 ?_
  refine lv_aload_n hx hb dX2_add_14 rfl (lv_at hl 0 rfl) ?_
  refine g_get hx hb ht hown hE hP (by decide) gE_26 uX2 rfl 0 (by decide) m_164 rfl rfl dX2_add_15 ?_
  refine lv_iload_n hx hb dX2_add_18 rfl (lv_at hl 2 rfl) ?_
  obtain ⟨i3, h⟩ := g_ix h
  refine g_iast hx hb hE hP hS (by decide) rfl (by decide) i3 dX2_add_19 (fun H locs σ4 eσ4 hP hS => ?_)
  have h := g_nm eσ4 h
  refine lv_aload_n hx hb dX2_add_20 rfl (lv_at hl 0 rfl) ?_
  refine g_get hx hb ht hown hE hP (by decide) gE_26 uX2 rfl 3 (by decide) m_168 rfl rfl dX2_add_21 ?_
  refine lv_aload_n hx hb dX2_add_24 rfl (lv_at hl 0 rfl) ?_
  refine g_get hx hb ht hown hE hP (by decide) gE_26 uX2 rfl 0 (by decide) m_164 rfl rfl dX2_add_25 ?_
  refine lv_iload_n hx hb dX2_add_28 rfl (lv_at hl 3 rfl) ?_
  obtain ⟨i5, h⟩ := g_ix h
  refine g_iast hx hb hE hP hS (by decide) rfl (by decide) i5 dX2_add_29 (fun H locs σ6 eσ6 hP hS => ?_)
  have h := g_nm eσ6 h
  refine lv_aload_n hx hb dX2_add_30 rfl (lv_at hl 0 rfl) ?_
  refine g_get hx hb ht hown hE hP (by decide) gE_26 uX2 rfl 4 (by decide) m_170 rfl rfl dX2_add_31 ?_
  refine lv_aload_n hx hb dX2_add_34 rfl (lv_at hl 0 rfl) ?_
  refine g_get hx hb ht hown hE hP (by decide) gE_26 uX2 rfl 0 (by decide) m_164 rfl rfl dX2_add_35 ?_
  refine lv_iload hx hb dX2_add_38 (lv_at hl 4 rfl) ?_
  obtain ⟨i7, h⟩ := g_ix h
  refine g_iast hx hb hE hP hS (by decide) rfl (by decide) i7 dX2_add_40 (fun H locs σ8 eσ8 hP hS => ?_)
  have h := g_nm eσ8 h
  refine lv_aload_n hx hb dX2_add_41 rfl (lv_at hl 0 rfl) ?_
  refine lv_dup hx hb dX2_add_42 rfl ?_
  refine g_get hx hb ht hown hE hP (by decide) gE_26 uX2 rfl 0 (by decide) m_164 rfl rfl dX2_add_43 ?_
  refine lv_iconst (v := 1) hx hb dX2_add_46 (by decide) ?_
  refine lv_iadd hx hb dX2_add_47 ?_
  refine g_put hx hb ht hown hE hP hS (by decide) gE_26 uX2 tyX2_ok nmX2 rfl 0 (by decide) m_164 rfl rfl rfl rfl rfl (Nat.le_of_ble_eq_true rfl) rfl dX2_add_48 (fun H locs σ9 eσ9 hP hS => ?_)
  have h := g_nm eσ9 h
  refine lv_aload_n hx hb dX2_add_51 rfl (lv_at hl 0 rfl) ?_
  refine g_get hx hb ht hown hE hP (by decide) gE_26 uX2 rfl 0 (by decide) m_164 rfl rfl dX2_add_52 ?_
  refine lv_iconst (v := 1) hx hb dX2_add_55 (by decide) ?_
  refine lv_isub hx hb dX2_add_56 ?_
  exact g_iret hx hb hr hlk hE hP hS h dX2_add_57

def M_X2_rules (a1 a2 a3 : Int32) (σ : gSt) : gO :=
  gIx 12 a1 (if (σ 27 a1.toNatClampNeg) = a2 then (gIx 12 a1 (if a3 < (σ 29 a1.toNatClampNeg) then (some (0, σ)) else (gIx 12 a1 (if (σ 30 a1.toNatClampNeg) < a3 then (some (0, σ)) else (some (1, σ)))))) else (some (0, σ)))
set_option maxHeartbeats 4000000 in
set_option maxRecDepth 100000 in
theorem c_X2_rules (l : Launch) (G : gPar) (a1 a2 a3 : Int32) (σ : gSt) {r : Int32} {σ' : gSt} (h : M_X2_rules a1 a2 a3 σ = some (r, σ')) : gC l G yX2_rules cX2_rules 4 (some .boolean) 0 0 [.ref (G.2.2.1 26), .int a1, .int a2, .int a3] σ r σ' := by
  refine gC_of (by decide) (Nat.le_of_ble_eq_true rfl) ?_
  intro p e s m below meth c hx hb hr ht hown hlk hml hE hP ls hl
  have hS : va_S (gA G) s.heap s.heap [] := va_S.rf
  have hl : lv_has ls 4 [(0, .ref (G.2.2.1 26)), (1, .int a1), (2, .int a2), (3, .int a3)] := hl
  unfold M_X2_rules at h
  refine lv_aload_n hx hb dX2_rules_0 rfl (lv_at hl 0 rfl) ?_
  refine g_get hx hb ht hown hE hP (by decide) gE_26 uX2 rfl 1 (by decide) m_166 rfl rfl dX2_rules_1 ?_
  refine lv_iload_n hx hb dX2_rules_4 rfl (lv_at hl 1 rfl) ?_
  obtain ⟨i1, h⟩ := g_ix h
  refine g_iald hx hb hE hP (by decide) rfl (by decide) i1 dX2_rules_5 ?_
  refine lv_iload_n hx hb dX2_rules_6 rfl (lv_at hl 2 rfl) ?_
  refine lv_icmp_ne (tgt := 34) hx hb dX2_rules_7 (by decide) (fun c2 => ?_) (fun c2 => ?_)
  · have h := g_iff c2 h
    refine lv_iconst (v := 0) hx hb dX2_rules_34 (by decide) ?_
    exact g_zret hx hb hr hlk hE hP hS (by decide) h dX2_rules_35
  · have h := g_ift c2 h
    refine lv_aload_n hx hb dX2_rules_10 rfl (lv_at hl 0 rfl) ?_
    refine g_get hx hb ht hown hE hP (by decide) gE_26 uX2 rfl 3 (by decide) m_168 rfl rfl dX2_rules_11 ?_
    refine lv_iload_n hx hb dX2_rules_14 rfl (lv_at hl 1 rfl) ?_
    obtain ⟨i3, h⟩ := g_ix h
    refine g_iald hx hb hE hP (by decide) rfl (by decide) i3 dX2_rules_15 ?_
    refine lv_iload_n hx hb dX2_rules_16 rfl (lv_at hl 3 rfl) ?_
    refine lv_icmp_gt (tgt := 34) hx hb dX2_rules_17 (by decide) (fun c4 => ?_) (fun c4 => ?_)
    · have h := g_ift c4 h
      refine lv_iconst (v := 0) hx hb dX2_rules_34 (by decide) ?_
      exact g_zret hx hb hr hlk hE hP hS (by decide) h dX2_rules_35
    · have h := g_iff c4 h
      refine lv_iload_n hx hb dX2_rules_20 rfl (lv_at hl 3 rfl) ?_
      refine lv_aload_n hx hb dX2_rules_21 rfl (lv_at hl 0 rfl) ?_
      refine g_get hx hb ht hown hE hP (by decide) gE_26 uX2 rfl 4 (by decide) m_170 rfl rfl dX2_rules_22 ?_
      refine lv_iload_n hx hb dX2_rules_25 rfl (lv_at hl 1 rfl) ?_
      obtain ⟨i5, h⟩ := g_ix h
      refine g_iald hx hb hE hP (by decide) rfl (by decide) i5 dX2_rules_26 ?_
      refine lv_icmp_gt (tgt := 34) hx hb dX2_rules_27 (by decide) (fun c6 => ?_) (fun c6 => ?_)
      · have h := g_ift c6 h
        refine lv_iconst (v := 0) hx hb dX2_rules_34 (by decide) ?_
        exact g_zret hx hb hr hlk hE hP hS (by decide) h dX2_rules_35
      · have h := g_iff c6 h
        refine lv_iconst (v := 1) hx hb dX2_rules_30 (by decide) ?_
        refine lv_goto (tgt := 35) hx hb dX2_rules_31 (by decide) ?_
        exact g_zret hx hb hr hlk hE hP hS (by decide) h dX2_rules_35

def L1_X2_anyRules (a1 a2 : Int32) : Nat → Int32 → gSt → (Int32 → gSt → gO) → gO
  | 0, _, _, _ => none
  | nL1 + 1, l1_3, σL1, kL1 =>
    if (σL1 26 0) ≤ l1_3 then (kL1 l1_3 σL1) else (gBd (M_X2_rules l1_3 a1 a2 σL1) (fun r4 σ3 => if r4 = 0 then (gNm (l1_3 + 1) (fun x6 => L1_X2_anyRules a1 a2 nL1 x6 σ3 kL1)) else (some (1, σ3))))
def M_X2_anyRules (a1 a2 : Int32) (σ : gSt) : gO :=
  L1_X2_anyRules a1 a2 gFu 0 σ (fun z7 σ8 => some (0, σ8))
set_option maxHeartbeats 4000000 in
set_option maxRecDepth 100000 in
theorem c_X2_anyRules (l : Launch) (G : gPar) (a1 a2 : Int32) (σ : gSt) {r : Int32} {σ' : gSt} (h : M_X2_anyRules a1 a2 σ = some (r, σ')) : gC l G yX2_anyRules cX2_anyRules 4 (some .boolean) 1 23 [.ref (G.2.2.1 26), .int a1, .int a2] σ r σ' := by
  refine gC_of (by decide) (Nat.le_of_ble_eq_true rfl) ?_
  intro p e s m below meth c hx hb hr ht hown hlk hml hE hP ls hl
  have hS : va_S (gA G) s.heap s.heap [] := va_S.rf
  have hl : lv_has ls 4 [(0, .ref (G.2.2.1 26)), (1, .int a1), (2, .int a2)] := hl
  unfold M_X2_anyRules at h
  refine lv_iconst (v := 0) hx hb dX2_anyRules_0 (by decide) ?_
  refine lv_istore_n (lv' := [(3, .int 0), (0, .ref (G.2.2.1 26)), (1, .int a1), (2, .int a2)]) hx hb dX2_anyRules_1 rfl hl (by decide) rfl (fun ls hl => ?_)
  have LPL1 : ∀ (kL1 : Int32 → gSt → gO), (∀ (l1_3 : Int32) (σL1 : gSt) (H : Heap) (locs : List Loc) (ls : Array Slot), kL1 l1_3 σL1 = some (r, σ') → gW G σL1 H → va_S (gA G) s.heap H locs → lv_has ls 4 [(3, .int l1_3), (0, .ref (G.2.2.1 26)), (1, .int a1), (2, .int a2)] → W p l e (gRm 1 23) s m ([.ref (G.2.2.1 26), .int a1, .int a2].toArray) below meth c H locs 0 0 (MQ below (gQ G r σ') ([.ref (G.2.2.1 26), .int a1, .int a2].toArray) s 0 0 (gA G)) (F0 m 28 ls [])) → ∀ (nL1 : Nat) (l1_3 : Int32) (σL1 : gSt) (H : Heap) (locs : List Loc) (ls : Array Slot), L1_X2_anyRules a1 a2 nL1 l1_3 σL1 kL1 = some (r, σ') → gW G σL1 H → va_S (gA G) s.heap H locs → lv_has ls 4 [(3, .int l1_3), (0, .ref (G.2.2.1 26)), (1, .int a1), (2, .int a2)] → W p l e (gRm 1 23) s m ([.ref (G.2.2.1 26), .int a1, .int a2].toArray) below meth c H locs 0 0 (MQ below (gQ G r σ') ([.ref (G.2.2.1 26), .int a1, .int a2].toArray) s 0 0 (gA G)) (F0 m 2 ls []) := by
    intro kL1 hKL1 nL1
    induction nL1 with
    | zero =>
      intro l1_3 σL1 H locs ls h
      cases h
    | succ nL1 ihL1 =>
      intro l1_3 σL1 H locs ls h hP hS hl
      rw [L1_X2_anyRules] at h
      refine lv_iload_n hx hb dX2_anyRules_2 rfl (lv_at hl 0 rfl) ?_
      refine lv_aload_n hx hb dX2_anyRules_3 rfl (lv_at hl 1 rfl) ?_
      refine g_get hx hb ht hown hE hP (by decide) gE_26 uX2 rfl 0 (by decide) m_164 rfl rfl dX2_anyRules_4 ?_
      refine lv_icmp_ge (tgt := 28) hx hb dX2_anyRules_7 (by decide) (fun c2 => ?_) (fun c2 => ?_)
      · have h := g_ift c2 h
        exact hKL1 _ _ _ _ _ h hP hS (lv_sub hl [0, 1, 2, 3] rfl)
      · have h := g_iff c2 h
        refine lv_aload_n hx hb dX2_anyRules_10 rfl (lv_at hl 1 rfl) ?_
        refine lv_iload_n hx hb dX2_anyRules_11 rfl (lv_at hl 0 rfl) ?_
        refine lv_iload_n hx hb dX2_anyRules_12 rfl (lv_at hl 2 rfl) ?_
        refine lv_iload_n hx hb dX2_anyRules_13 rfl (lv_at hl 3 rfl) ?_
        obtain ⟨r4, σ3, hcr4, h⟩ := g_bd h
        refine g_callV (As := [.int l1_3, .int a1, .int a2]) (n := 3) hx hb hml hown ht (c_X2_rules l G _ _ _ _ hcr4) m_498 m_499 m_500 m_35 m_501 (by decide +kernel) (by decide) gE_26 rfl hE hP hS (fun _ h => h) (fun _ _ h => h) rfl hl.1 rfl (Nat.le_of_ble_eq_true rfl) dX2_anyRules_14 ⟨by decide, by decide⟩ ⟨Nat.zero_le _, Nat.zero_le _⟩ (fun H locs hP hS => ?_)
        refine lv_if_eq (tgt := 22) hx hb dX2_anyRules_17 (by decide) (fun c5 => ?_) (fun c5 => ?_)
        · have h := g_ift c5 h
          obtain ⟨x6, ex6⟩ : ∃ y : Int32, y = l1_3 + 1 := ⟨_, rfl⟩
          have h := g_nm ex6 h
          refine lv_iinc (v := x6) (lv' := [(3, .int x6), (0, .ref (G.2.2.1 26)), (1, .int a1), (2, .int a2)]) hx hb dX2_anyRules_22 hl (k := 0) rfl (by rw [ex6]; rfl) (by decide) rfl (fun ls hl => ?_)
          refine lv_goto (tgt := 2) hx hb dX2_anyRules_25 (by decide) ?_
          exact ihL1 _ _ _ _ _ h hP hS (lv_sub hl [0, 1, 2, 3] rfl)
        · have h := g_iff c5 h
          refine lv_iconst (v := 1) hx hb dX2_anyRules_20 (by decide) ?_
          exact g_zret hx hb hr hlk hE hP hS (by decide) h dX2_anyRules_21
  refine LPL1 _ (fun z7 σ8 H locs ls h hP hS hl => ?_) gFu _ _ _ _ _ h hP hS (lv_sub hl [0, 1, 2, 3] rfl)
  refine lv_iconst (v := 0) hx hb dX2_anyRules_28 (by decide) ?_
  exact g_zret hx hb hr hlk hE hP hS (by decide) h dX2_anyRules_29

def L1_X2_anyAtMost (a1 a2 a3 : Int32) : Nat → Int32 → gSt → (Int32 → gSt → gO) → gO
  | 0, _, _, _ => none
  | nL1 + 1, l1_4, σL1, kL1 =>
    if (σL1 26 0) ≤ l1_4 then (kL1 l1_4 σL1) else (gBd (M_X2_rules l1_4 a1 a2 σL1) (fun r4 σ3 => if r4 = 0 then (gNm (l1_4 + 1) (fun x6 => L1_X2_anyAtMost a1 a2 a3 nL1 x6 σ3 kL1)) else (gIx 12 l1_4 (if a3 < (σ3 28 l1_4.toNatClampNeg) then (gNm (l1_4 + 1) (fun x9 => L1_X2_anyAtMost a1 a2 a3 nL1 x9 σ3 kL1)) else (some (1, σ3))))))
def M_X2_anyAtMost (a1 a2 a3 : Int32) (σ : gSt) : gO :=
  L1_X2_anyAtMost a1 a2 a3 gFu 0 σ (fun z10 σ11 => some (0, σ11))
set_option maxHeartbeats 4000000 in
set_option maxRecDepth 100000 in
theorem c_X2_anyAtMost (l : Launch) (G : gPar) (a1 a2 a3 : Int32) (σ : gSt) {r : Int32} {σ' : gSt} (h : M_X2_anyAtMost a1 a2 a3 σ = some (r, σ')) : gC l G yX2_anyAtMost cX2_anyAtMost 5 (some .boolean) 1 23 [.ref (G.2.2.1 26), .int a1, .int a2, .int a3] σ r σ' := by
  refine gC_of (by decide) (Nat.le_of_ble_eq_true rfl) ?_
  intro p e s m below meth c hx hb hr ht hown hlk hml hE hP ls hl
  have hS : va_S (gA G) s.heap s.heap [] := va_S.rf
  have hl : lv_has ls 5 [(0, .ref (G.2.2.1 26)), (1, .int a1), (2, .int a2), (3, .int a3)] := hl
  unfold M_X2_anyAtMost at h
  refine lv_iconst (v := 0) hx hb dX2_anyAtMost_0 (by decide) ?_
  refine lv_istore (lv' := [(4, .int 0), (0, .ref (G.2.2.1 26)), (1, .int a1), (2, .int a2), (3, .int a3)]) hx hb dX2_anyAtMost_1 hl (by decide) rfl (fun ls hl => ?_)
  have LPL1 : ∀ (kL1 : Int32 → gSt → gO), (∀ (l1_4 : Int32) (σL1 : gSt) (H : Heap) (locs : List Loc) (ls : Array Slot), kL1 l1_4 σL1 = some (r, σ') → gW G σL1 H → va_S (gA G) s.heap H locs → lv_has ls 5 [(4, .int l1_4), (0, .ref (G.2.2.1 26)), (1, .int a1), (2, .int a2), (3, .int a3)] → W p l e (gRm 1 23) s m ([.ref (G.2.2.1 26), .int a1, .int a2, .int a3].toArray) below meth c H locs 0 0 (MQ below (gQ G r σ') ([.ref (G.2.2.1 26), .int a1, .int a2, .int a3].toArray) s 0 0 (gA G)) (F0 m 42 ls [])) → ∀ (nL1 : Nat) (l1_4 : Int32) (σL1 : gSt) (H : Heap) (locs : List Loc) (ls : Array Slot), L1_X2_anyAtMost a1 a2 a3 nL1 l1_4 σL1 kL1 = some (r, σ') → gW G σL1 H → va_S (gA G) s.heap H locs → lv_has ls 5 [(4, .int l1_4), (0, .ref (G.2.2.1 26)), (1, .int a1), (2, .int a2), (3, .int a3)] → W p l e (gRm 1 23) s m ([.ref (G.2.2.1 26), .int a1, .int a2, .int a3].toArray) below meth c H locs 0 0 (MQ below (gQ G r σ') ([.ref (G.2.2.1 26), .int a1, .int a2, .int a3].toArray) s 0 0 (gA G)) (F0 m 3 ls []) := by
    intro kL1 hKL1 nL1
    induction nL1 with
    | zero =>
      intro l1_4 σL1 H locs ls h
      cases h
    | succ nL1 ihL1 =>
      intro l1_4 σL1 H locs ls h hP hS hl
      rw [L1_X2_anyAtMost] at h
      refine lv_iload hx hb dX2_anyAtMost_3 (lv_at hl 0 rfl) ?_
      refine lv_aload_n hx hb dX2_anyAtMost_5 rfl (lv_at hl 1 rfl) ?_
      refine g_get hx hb ht hown hE hP (by decide) gE_26 uX2 rfl 0 (by decide) m_164 rfl rfl dX2_anyAtMost_6 ?_
      refine lv_icmp_ge (tgt := 42) hx hb dX2_anyAtMost_9 (by decide) (fun c2 => ?_) (fun c2 => ?_)
      · have h := g_ift c2 h
        exact hKL1 _ _ _ _ _ h hP hS (lv_sub hl [0, 1, 2, 3, 4] rfl)
      · have h := g_iff c2 h
        refine lv_aload_n hx hb dX2_anyAtMost_12 rfl (lv_at hl 1 rfl) ?_
        refine lv_iload hx hb dX2_anyAtMost_13 (lv_at hl 0 rfl) ?_
        refine lv_iload_n hx hb dX2_anyAtMost_15 rfl (lv_at hl 2 rfl) ?_
        refine lv_iload_n hx hb dX2_anyAtMost_16 rfl (lv_at hl 3 rfl) ?_
        obtain ⟨r4, σ3, hcr4, h⟩ := g_bd h
        refine g_callV (As := [.int l1_4, .int a1, .int a2]) (n := 3) hx hb hml hown ht (c_X2_rules l G _ _ _ _ hcr4) m_498 m_499 m_500 m_35 m_501 (by decide +kernel) (by decide) gE_26 rfl hE hP hS (fun _ h => h) (fun _ _ h => h) rfl hl.1 rfl (Nat.le_of_ble_eq_true rfl) dX2_anyAtMost_17 ⟨by decide, by decide⟩ ⟨Nat.zero_le _, Nat.zero_le _⟩ (fun H locs hP hS => ?_)
        refine lv_if_eq (tgt := 36) hx hb dX2_anyAtMost_20 (by decide) (fun c5 => ?_) (fun c5 => ?_)
        · have h := g_ift c5 h
          obtain ⟨x6, ex6⟩ : ∃ y : Int32, y = l1_4 + 1 := ⟨_, rfl⟩
          have h := g_nm ex6 h
          refine lv_iinc (v := x6) (lv' := [(4, .int x6), (0, .ref (G.2.2.1 26)), (1, .int a1), (2, .int a2), (3, .int a3)]) hx hb dX2_anyAtMost_36 hl (k := 0) rfl (by rw [ex6]; rfl) (by decide) rfl (fun ls hl => ?_)
          refine lv_goto (tgt := 3) hx hb dX2_anyAtMost_39 (by decide) ?_
          exact ihL1 _ _ _ _ _ h hP hS (lv_sub hl [0, 1, 2, 3, 4] rfl)
        · have h := g_iff c5 h
          refine lv_aload_n hx hb dX2_anyAtMost_23 rfl (lv_at hl 1 rfl) ?_
          refine g_get hx hb ht hown hE hP (by decide) gE_26 uX2 rfl 2 (by decide) m_167 rfl rfl dX2_anyAtMost_24 ?_
          refine lv_iload hx hb dX2_anyAtMost_27 (lv_at hl 0 rfl) ?_
          obtain ⟨i7, h⟩ := g_ix h
          refine g_iald hx hb hE hP (by decide) rfl (by decide) i7 dX2_anyAtMost_29 ?_
          refine lv_iload_n hx hb dX2_anyAtMost_30 rfl (lv_at hl 4 rfl) ?_
          refine lv_icmp_gt (tgt := 36) hx hb dX2_anyAtMost_31 (by decide) (fun c8 => ?_) (fun c8 => ?_)
          · have h := g_ift c8 h
            obtain ⟨x9, ex9⟩ : ∃ y : Int32, y = l1_4 + 1 := ⟨_, rfl⟩
            have h := g_nm ex9 h
            refine lv_iinc (v := x9) (lv' := [(4, .int x9), (0, .ref (G.2.2.1 26)), (1, .int a1), (2, .int a2), (3, .int a3)]) hx hb dX2_anyAtMost_36 hl (k := 0) rfl (by rw [ex9]; rfl) (by decide) rfl (fun ls hl => ?_)
            refine lv_goto (tgt := 3) hx hb dX2_anyAtMost_39 (by decide) ?_
            exact ihL1 _ _ _ _ _ h hP hS (lv_sub hl [0, 1, 2, 3, 4] rfl)
          · have h := g_iff c8 h
            refine lv_iconst (v := 1) hx hb dX2_anyAtMost_34 (by decide) ?_
            exact g_zret hx hb hr hlk hE hP hS (by decide) h dX2_anyAtMost_35
  refine LPL1 _ (fun z10 σ11 H locs ls h hP hS hl => ?_) gFu _ _ _ _ _ h hP hS (lv_sub hl [0, 1, 2, 3, 4] rfl)
  refine lv_iconst (v := 0) hx hb dX2_anyAtMost_42 (by decide) ?_
  exact g_zret hx hb hr hlk hE hP hS (by decide) h dX2_anyAtMost_43

def L1_X2_anyAbove (a1 a2 a3 : Int32) : Nat → Int32 → gSt → (Int32 → gSt → gO) → gO
  | 0, _, _, _ => none
  | nL1 + 1, l1_4, σL1, kL1 =>
    if (σL1 26 0) ≤ l1_4 then (kL1 l1_4 σL1) else (gBd (M_X2_rules l1_4 a1 a2 σL1) (fun r4 σ3 => if r4 = 0 then (gNm (l1_4 + 1) (fun x6 => L1_X2_anyAbove a1 a2 a3 nL1 x6 σ3 kL1)) else (gIx 12 l1_4 (if (σ3 28 l1_4.toNatClampNeg) ≤ a3 then (gNm (l1_4 + 1) (fun x9 => L1_X2_anyAbove a1 a2 a3 nL1 x9 σ3 kL1)) else (some (1, σ3))))))
def M_X2_anyAbove (a1 a2 a3 : Int32) (σ : gSt) : gO :=
  L1_X2_anyAbove a1 a2 a3 gFu 0 σ (fun z10 σ11 => some (0, σ11))
set_option maxHeartbeats 4000000 in
set_option maxRecDepth 100000 in
theorem c_X2_anyAbove (l : Launch) (G : gPar) (a1 a2 a3 : Int32) (σ : gSt) {r : Int32} {σ' : gSt} (h : M_X2_anyAbove a1 a2 a3 σ = some (r, σ')) : gC l G yX2_anyAbove cX2_anyAbove 5 (some .boolean) 1 23 [.ref (G.2.2.1 26), .int a1, .int a2, .int a3] σ r σ' := by
  refine gC_of (by decide) (Nat.le_of_ble_eq_true rfl) ?_
  intro p e s m below meth c hx hb hr ht hown hlk hml hE hP ls hl
  have hS : va_S (gA G) s.heap s.heap [] := va_S.rf
  have hl : lv_has ls 5 [(0, .ref (G.2.2.1 26)), (1, .int a1), (2, .int a2), (3, .int a3)] := hl
  unfold M_X2_anyAbove at h
  refine lv_iconst (v := 0) hx hb dX2_anyAbove_0 (by decide) ?_
  refine lv_istore (lv' := [(4, .int 0), (0, .ref (G.2.2.1 26)), (1, .int a1), (2, .int a2), (3, .int a3)]) hx hb dX2_anyAbove_1 hl (by decide) rfl (fun ls hl => ?_)
  have LPL1 : ∀ (kL1 : Int32 → gSt → gO), (∀ (l1_4 : Int32) (σL1 : gSt) (H : Heap) (locs : List Loc) (ls : Array Slot), kL1 l1_4 σL1 = some (r, σ') → gW G σL1 H → va_S (gA G) s.heap H locs → lv_has ls 5 [(4, .int l1_4), (0, .ref (G.2.2.1 26)), (1, .int a1), (2, .int a2), (3, .int a3)] → W p l e (gRm 1 23) s m ([.ref (G.2.2.1 26), .int a1, .int a2, .int a3].toArray) below meth c H locs 0 0 (MQ below (gQ G r σ') ([.ref (G.2.2.1 26), .int a1, .int a2, .int a3].toArray) s 0 0 (gA G)) (F0 m 42 ls [])) → ∀ (nL1 : Nat) (l1_4 : Int32) (σL1 : gSt) (H : Heap) (locs : List Loc) (ls : Array Slot), L1_X2_anyAbove a1 a2 a3 nL1 l1_4 σL1 kL1 = some (r, σ') → gW G σL1 H → va_S (gA G) s.heap H locs → lv_has ls 5 [(4, .int l1_4), (0, .ref (G.2.2.1 26)), (1, .int a1), (2, .int a2), (3, .int a3)] → W p l e (gRm 1 23) s m ([.ref (G.2.2.1 26), .int a1, .int a2, .int a3].toArray) below meth c H locs 0 0 (MQ below (gQ G r σ') ([.ref (G.2.2.1 26), .int a1, .int a2, .int a3].toArray) s 0 0 (gA G)) (F0 m 3 ls []) := by
    intro kL1 hKL1 nL1
    induction nL1 with
    | zero =>
      intro l1_4 σL1 H locs ls h
      cases h
    | succ nL1 ihL1 =>
      intro l1_4 σL1 H locs ls h hP hS hl
      rw [L1_X2_anyAbove] at h
      refine lv_iload hx hb dX2_anyAbove_3 (lv_at hl 0 rfl) ?_
      refine lv_aload_n hx hb dX2_anyAbove_5 rfl (lv_at hl 1 rfl) ?_
      refine g_get hx hb ht hown hE hP (by decide) gE_26 uX2 rfl 0 (by decide) m_164 rfl rfl dX2_anyAbove_6 ?_
      refine lv_icmp_ge (tgt := 42) hx hb dX2_anyAbove_9 (by decide) (fun c2 => ?_) (fun c2 => ?_)
      · have h := g_ift c2 h
        exact hKL1 _ _ _ _ _ h hP hS (lv_sub hl [0, 1, 2, 3, 4] rfl)
      · have h := g_iff c2 h
        refine lv_aload_n hx hb dX2_anyAbove_12 rfl (lv_at hl 1 rfl) ?_
        refine lv_iload hx hb dX2_anyAbove_13 (lv_at hl 0 rfl) ?_
        refine lv_iload_n hx hb dX2_anyAbove_15 rfl (lv_at hl 2 rfl) ?_
        refine lv_iload_n hx hb dX2_anyAbove_16 rfl (lv_at hl 3 rfl) ?_
        obtain ⟨r4, σ3, hcr4, h⟩ := g_bd h
        refine g_callV (As := [.int l1_4, .int a1, .int a2]) (n := 3) hx hb hml hown ht (c_X2_rules l G _ _ _ _ hcr4) m_498 m_499 m_500 m_35 m_501 (by decide +kernel) (by decide) gE_26 rfl hE hP hS (fun _ h => h) (fun _ _ h => h) rfl hl.1 rfl (Nat.le_of_ble_eq_true rfl) dX2_anyAbove_17 ⟨by decide, by decide⟩ ⟨Nat.zero_le _, Nat.zero_le _⟩ (fun H locs hP hS => ?_)
        refine lv_if_eq (tgt := 36) hx hb dX2_anyAbove_20 (by decide) (fun c5 => ?_) (fun c5 => ?_)
        · have h := g_ift c5 h
          obtain ⟨x6, ex6⟩ : ∃ y : Int32, y = l1_4 + 1 := ⟨_, rfl⟩
          have h := g_nm ex6 h
          refine lv_iinc (v := x6) (lv' := [(4, .int x6), (0, .ref (G.2.2.1 26)), (1, .int a1), (2, .int a2), (3, .int a3)]) hx hb dX2_anyAbove_36 hl (k := 0) rfl (by rw [ex6]; rfl) (by decide) rfl (fun ls hl => ?_)
          refine lv_goto (tgt := 3) hx hb dX2_anyAbove_39 (by decide) ?_
          exact ihL1 _ _ _ _ _ h hP hS (lv_sub hl [0, 1, 2, 3, 4] rfl)
        · have h := g_iff c5 h
          refine lv_aload_n hx hb dX2_anyAbove_23 rfl (lv_at hl 1 rfl) ?_
          refine g_get hx hb ht hown hE hP (by decide) gE_26 uX2 rfl 2 (by decide) m_167 rfl rfl dX2_anyAbove_24 ?_
          refine lv_iload hx hb dX2_anyAbove_27 (lv_at hl 0 rfl) ?_
          obtain ⟨i7, h⟩ := g_ix h
          refine g_iald hx hb hE hP (by decide) rfl (by decide) i7 dX2_anyAbove_29 ?_
          refine lv_iload_n hx hb dX2_anyAbove_30 rfl (lv_at hl 4 rfl) ?_
          refine lv_icmp_le (tgt := 36) hx hb dX2_anyAbove_31 (by decide) (fun c8 => ?_) (fun c8 => ?_)
          · have h := g_ift c8 h
            obtain ⟨x9, ex9⟩ : ∃ y : Int32, y = l1_4 + 1 := ⟨_, rfl⟩
            have h := g_nm ex9 h
            refine lv_iinc (v := x9) (lv' := [(4, .int x9), (0, .ref (G.2.2.1 26)), (1, .int a1), (2, .int a2), (3, .int a3)]) hx hb dX2_anyAbove_36 hl (k := 0) rfl (by rw [ex9]; rfl) (by decide) rfl (fun ls hl => ?_)
            refine lv_goto (tgt := 3) hx hb dX2_anyAbove_39 (by decide) ?_
            exact ihL1 _ _ _ _ _ h hP hS (lv_sub hl [0, 1, 2, 3, 4] rfl)
          · have h := g_iff c8 h
            refine lv_iconst (v := 1) hx hb dX2_anyAbove_34 (by decide) ?_
            exact g_zret hx hb hr hlk hE hP hS (by decide) h dX2_anyAbove_35
  refine LPL1 _ (fun z10 σ11 H locs ls h hP hS hl => ?_) gFu _ _ _ _ _ h hP hS (lv_sub hl [0, 1, 2, 3, 4] rfl)
  refine lv_iconst (v := 0) hx hb dX2_anyAbove_42 (by decide) ?_
  exact g_zret hx hb hr hlk hE hP hS (by decide) h dX2_anyAbove_43

def M_X3_has (a1 : Int32) (σ : gSt) : gO :=
  if a1 < 0 then (some (0, σ)) else (if (σ 31 0) ≤ a1 then (some (0, σ)) else (some (1, σ)))
set_option maxHeartbeats 4000000 in
set_option maxRecDepth 100000 in
theorem c_X3_has (l : Launch) (G : gPar) (a1 : Int32) (σ : gSt) {r : Int32} {σ' : gSt} (h : M_X3_has a1 σ = some (r, σ')) : gC l G yX3_has cX3_has 2 (some .boolean) 0 0 [.ref (G.2.2.1 31), .int a1] σ r σ' := by
  refine gC_of (by decide) (Nat.le_of_ble_eq_true rfl) ?_
  intro p e s m below meth c hx hb hr ht hown hlk hml hE hP ls hl
  have hS : va_S (gA G) s.heap s.heap [] := va_S.rf
  have hl : lv_has ls 2 [(0, .ref (G.2.2.1 31)), (1, .int a1)] := hl
  unfold M_X3_has at h
  refine lv_iload_n hx hb dX3_has_0 rfl (lv_at hl 1 rfl) ?_
  refine lv_if_lt (tgt := 16) hx hb dX3_has_1 (by decide) (fun c1 => ?_) (fun c1 => ?_)
  · have h := g_ift c1 h
    refine lv_iconst (v := 0) hx hb dX3_has_16 (by decide) ?_
    exact g_zret hx hb hr hlk hE hP hS (by decide) h dX3_has_17
  · have h := g_iff c1 h
    refine lv_iload_n hx hb dX3_has_4 rfl (lv_at hl 1 rfl) ?_
    refine lv_aload_n hx hb dX3_has_5 rfl (lv_at hl 0 rfl) ?_
    refine g_get hx hb ht hown hE hP (by decide) gE_31 uX3 rfl 0 (by decide) m_189 rfl rfl dX3_has_6 ?_
    refine lv_icmp_ge (tgt := 16) hx hb dX3_has_9 (by decide) (fun c2 => ?_) (fun c2 => ?_)
    · have h := g_ift c2 h
      refine lv_iconst (v := 0) hx hb dX3_has_16 (by decide) ?_
      exact g_zret hx hb hr hlk hE hP hS (by decide) h dX3_has_17
    · have h := g_iff c2 h
      refine lv_iconst (v := 1) hx hb dX3_has_12 (by decide) ?_
      refine lv_goto (tgt := 17) hx hb dX3_has_13 (by decide) ?_
      exact g_zret hx hb hr hlk hE hP hS (by decide) h dX3_has_17

def M_X3_add (a1 a2 a3 a4 a5 : Int32) (σ : gSt) : gO :=
  gIx 20 (σ 31 0) (gNm (gUp σ 32 (σ 31 0).toNatClampNeg a1) (fun σ2 => gIx 20 (σ2 31 0) (gNm (gUp σ2 33 (σ2 31 0).toNatClampNeg a2) (fun σ4 => gIx 20 (σ4 31 0) (gNm (gUp σ4 34 (σ4 31 0).toNatClampNeg a3) (fun σ6 => gIx 20 (σ6 31 0) (gNm (gUp σ6 35 (σ6 31 0).toNatClampNeg a4) (fun σ8 => gIx 20 (σ8 31 0) (gNm (gUp σ8 36 (σ8 31 0).toNatClampNeg a5) (fun σ10 => gIx 20 (σ10 31 0) (gNm (gUp σ10 37 (σ10 31 0).toNatClampNeg 0) (fun σ12 => gNm (gUp σ12 31 0 ((σ12 31 0) + 1)) (fun σ13 => some (((σ13 31 0) - 1), σ13))))))))))))))
set_option maxHeartbeats 4000000 in
set_option maxRecDepth 100000 in
theorem c_X3_add (l : Launch) (G : gPar) (a1 a2 a3 a4 a5 : Int32) (σ : gSt) {r : Int32} {σ' : gSt} (h : M_X3_add a1 a2 a3 a4 a5 σ = some (r, σ')) : gC l G yX3_add cX3_add 6 (some .int) 0 0 [.ref (G.2.2.1 31), .int a1, .int a2, .int a3, .int a4, .int a5] σ r σ' := by
  refine gC_of (by decide) (Nat.le_of_ble_eq_true rfl) ?_
  intro p e s m below meth c hx hb hr ht hown hlk hml hE hP ls hl
  have hS : va_S (gA G) s.heap s.heap [] := va_S.rf
  have hl : lv_has ls 6 [(0, .ref (G.2.2.1 31)), (1, .int a1), (2, .int a2), (3, .int a3), (4, .int a4), (5, .int a5)] := hl
  unfold M_X3_add at h
  refine lv_aload_n hx hb dX3_add_0 rfl (lv_at hl 0 rfl) ?_
  refine g_get hx hb ht hown hE hP (by decide) gE_31 uX3 rfl 1 (by decide) m_191 rfl rfl dX3_add_1 ?_
  refine lv_aload_n hx hb dX3_add_4 rfl (lv_at hl 0 rfl) ?_
  refine g_get hx hb ht hown hE hP (by decide) gE_31 uX3 rfl 0 (by decide) m_189 rfl rfl dX3_add_5 ?_
  refine lv_iload_n hx hb dX3_add_8 rfl (lv_at hl 1 rfl) ?_
  obtain ⟨i1, h⟩ := g_ix h
  refine g_iast hx hb hE hP hS (by decide) rfl (by decide) i1 dX3_add_9 (fun H locs σ2 eσ2 hP hS => ?_)
  have h := g_nm eσ2 h
  refine lv_aload_n hx hb dX3_add_10 rfl (lv_at hl 0 rfl) ?_
  refine g_get hx hb ht hown hE hP (by decide) gE_31 uX3 rfl 2 (by decide) m_193 rfl rfl dX3_add_11 ?_
  refine lv_aload_n hx hb dX3_add_14 rfl (lv_at hl 0 rfl) ?_
  refine g_get hx hb ht hown hE hP (by decide) gE_31 uX3 rfl 0 (by decide) m_189 rfl rfl dX3_add_15 ?_
  refine lv_iload_n hx hb dX3_add_18 rfl (lv_at hl 2 rfl) ?_
  obtain ⟨i3, h⟩ := g_ix h
  refine g_iast hx hb hE hP hS (by decide) rfl (by decide) i3 dX3_add_19 (fun H locs σ4 eσ4 hP hS => ?_)
  have h := g_nm eσ4 h
  refine lv_aload_n hx hb dX3_add_20 rfl (lv_at hl 0 rfl) ?_
  refine g_get hx hb ht hown hE hP (by decide) gE_31 uX3 rfl 3 (by decide) m_195 rfl rfl dX3_add_21 ?_
  refine lv_aload_n hx hb dX3_add_24 rfl (lv_at hl 0 rfl) ?_
  refine g_get hx hb ht hown hE hP (by decide) gE_31 uX3 rfl 0 (by decide) m_189 rfl rfl dX3_add_25 ?_
  refine lv_iload_n hx hb dX3_add_28 rfl (lv_at hl 3 rfl) ?_
  obtain ⟨i5, h⟩ := g_ix h
  refine g_iast hx hb hE hP hS (by decide) rfl (by decide) i5 dX3_add_29 (fun H locs σ6 eσ6 hP hS => ?_)
  have h := g_nm eσ6 h
  refine lv_aload_n hx hb dX3_add_30 rfl (lv_at hl 0 rfl) ?_
  refine g_get hx hb ht hown hE hP (by decide) gE_31 uX3 rfl 4 (by decide) m_197 rfl rfl dX3_add_31 ?_
  refine lv_aload_n hx hb dX3_add_34 rfl (lv_at hl 0 rfl) ?_
  refine g_get hx hb ht hown hE hP (by decide) gE_31 uX3 rfl 0 (by decide) m_189 rfl rfl dX3_add_35 ?_
  refine lv_iload hx hb dX3_add_38 (lv_at hl 4 rfl) ?_
  obtain ⟨i7, h⟩ := g_ix h
  refine g_iast hx hb hE hP hS (by decide) rfl (by decide) i7 dX3_add_40 (fun H locs σ8 eσ8 hP hS => ?_)
  have h := g_nm eσ8 h
  refine lv_aload_n hx hb dX3_add_41 rfl (lv_at hl 0 rfl) ?_
  refine g_get hx hb ht hown hE hP (by decide) gE_31 uX3 rfl 5 (by decide) m_199 rfl rfl dX3_add_42 ?_
  refine lv_aload_n hx hb dX3_add_45 rfl (lv_at hl 0 rfl) ?_
  refine g_get hx hb ht hown hE hP (by decide) gE_31 uX3 rfl 0 (by decide) m_189 rfl rfl dX3_add_46 ?_
  refine lv_iload hx hb dX3_add_49 (lv_at hl 5 rfl) ?_
  obtain ⟨i9, h⟩ := g_ix h
  refine g_iast hx hb hE hP hS (by decide) rfl (by decide) i9 dX3_add_51 (fun H locs σ10 eσ10 hP hS => ?_)
  have h := g_nm eσ10 h
  refine lv_aload_n hx hb dX3_add_52 rfl (lv_at hl 0 rfl) ?_
  refine g_get hx hb ht hown hE hP (by decide) gE_31 uX3 rfl 6 (by decide) m_201 rfl rfl dX3_add_53 ?_
  refine lv_aload_n hx hb dX3_add_56 rfl (lv_at hl 0 rfl) ?_
  refine g_get hx hb ht hown hE hP (by decide) gE_31 uX3 rfl 0 (by decide) m_189 rfl rfl dX3_add_57 ?_
  refine lv_iconst (v := 0) hx hb dX3_add_60 (by decide) ?_
  obtain ⟨i11, h⟩ := g_ix h
  refine g_iast hx hb hE hP hS (by decide) rfl (by decide) i11 dX3_add_61 (fun H locs σ12 eσ12 hP hS => ?_)
  have h := g_nm eσ12 h
  refine lv_aload_n hx hb dX3_add_62 rfl (lv_at hl 0 rfl) ?_
  refine lv_dup hx hb dX3_add_63 rfl ?_
  refine g_get hx hb ht hown hE hP (by decide) gE_31 uX3 rfl 0 (by decide) m_189 rfl rfl dX3_add_64 ?_
  refine lv_iconst (v := 1) hx hb dX3_add_67 (by decide) ?_
  refine lv_iadd hx hb dX3_add_68 ?_
  refine g_put hx hb ht hown hE hP hS (by decide) gE_31 uX3 tyX3_ok nmX3 rfl 0 (by decide) m_189 rfl rfl rfl rfl rfl (Nat.le_of_ble_eq_true rfl) rfl dX3_add_69 (fun H locs σ13 eσ13 hP hS => ?_)
  have h := g_nm eσ13 h
  refine lv_aload_n hx hb dX3_add_72 rfl (lv_at hl 0 rfl) ?_
  refine g_get hx hb ht hown hE hP (by decide) gE_31 uX3 rfl 0 (by decide) m_189 rfl rfl dX3_add_73 ?_
  refine lv_iconst (v := 1) hx hb dX3_add_76 (by decide) ?_
  refine lv_isub hx hb dX3_add_77 ?_
  exact g_iret hx hb hr hlk hE hP hS h dX3_add_78

def L1_X3_borneBy (a1 : Int32) : Nat → Int32 → Int32 → gSt → (Int32 → Int32 → gSt → gO) → gO
  | 0, _, _, _, _ => none
  | nL1 + 1, l1_3, l1_2, σL1, kL1 =>
    if (σL1 31 0) ≤ l1_3 then (kL1 l1_3 l1_2 σL1) else (gIx 20 l1_3 (if (σL1 37 l1_3.toNatClampNeg) = 2 then (gIx 20 l1_3 (gNm ((σL1 33 l1_3.toNatClampNeg)) (fun x13 => if x13 = a1 then (gIx 20 l1_3 (gNm ((l1_2 + (σL1 36 l1_3.toNatClampNeg))) (fun x17 => gNm (l1_3 + 1) (fun x18 => L1_X3_borneBy a1 nL1 x18 x17 σL1 kL1)))) else (gNm (l1_3 + 1) (fun x15 => L1_X3_borneBy a1 nL1 x15 l1_2 σL1 kL1))))) else (gIx 20 l1_3 (gNm ((σL1 34 l1_3.toNatClampNeg)) (fun x6 => if x6 = a1 then (gIx 20 l1_3 (gNm ((l1_2 + (σL1 36 l1_3.toNatClampNeg))) (fun x10 => gNm (l1_3 + 1) (fun x11 => L1_X3_borneBy a1 nL1 x11 x10 σL1 kL1)))) else (gNm (l1_3 + 1) (fun x8 => L1_X3_borneBy a1 nL1 x8 l1_2 σL1 kL1)))))))
def M_X3_borneBy (a1 : Int32) (σ : gSt) : gO :=
  L1_X3_borneBy a1 gFu 0 0 σ (fun z19 z20 σ21 => some (z20, σ21))
set_option maxHeartbeats 4000000 in
set_option maxRecDepth 100000 in
theorem c_X3_borneBy (l : Launch) (G : gPar) (a1 : Int32) (σ : gSt) {r : Int32} {σ' : gSt} (h : M_X3_borneBy a1 σ = some (r, σ')) : gC l G yX3_borneBy cX3_borneBy 5 (some .int) 0 0 [.ref (G.2.2.1 31), .int a1] σ r σ' := by
  refine gC_of (by decide) (Nat.le_of_ble_eq_true rfl) ?_
  intro p e s m below meth c hx hb hr ht hown hlk hml hE hP ls hl
  have hS : va_S (gA G) s.heap s.heap [] := va_S.rf
  have hl : lv_has ls 5 [(0, .ref (G.2.2.1 31)), (1, .int a1)] := hl
  unfold M_X3_borneBy at h
  refine lv_iconst (v := 0) hx hb dX3_borneBy_0 (by decide) ?_
  refine lv_istore_n (lv' := [(2, .int 0), (0, .ref (G.2.2.1 31)), (1, .int a1)]) hx hb dX3_borneBy_1 rfl hl (by decide) rfl (fun ls hl => ?_)
  refine lv_iconst (v := 0) hx hb dX3_borneBy_2 (by decide) ?_
  refine lv_istore_n (lv' := [(3, .int 0), (2, .int 0), (0, .ref (G.2.2.1 31)), (1, .int a1)]) hx hb dX3_borneBy_3 rfl hl (by decide) rfl (fun ls hl => ?_)
  have LPL1 : ∀ (kL1 : Int32 → Int32 → gSt → gO), (∀ (l1_3 l1_2 : Int32) (σL1 : gSt) (H : Heap) (locs : List Loc) (ls : Array Slot), kL1 l1_3 l1_2 σL1 = some (r, σ') → gW G σL1 H → va_S (gA G) s.heap H locs → lv_has ls 5 [(3, .int l1_3), (2, .int l1_2), (0, .ref (G.2.2.1 31)), (1, .int a1)] → W p l e (gRm 0 0) s m ([.ref (G.2.2.1 31), .int a1].toArray) below meth c H locs 0 0 (MQ below (gQ G r σ') ([.ref (G.2.2.1 31), .int a1].toArray) s 0 0 (gA G)) (F0 m 60 ls [])) → ∀ (nL1 : Nat) (l1_3 l1_2 : Int32) (σL1 : gSt) (H : Heap) (locs : List Loc) (ls : Array Slot), L1_X3_borneBy a1 nL1 l1_3 l1_2 σL1 kL1 = some (r, σ') → gW G σL1 H → va_S (gA G) s.heap H locs → lv_has ls 5 [(3, .int l1_3), (2, .int l1_2), (0, .ref (G.2.2.1 31)), (1, .int a1)] → W p l e (gRm 0 0) s m ([.ref (G.2.2.1 31), .int a1].toArray) below meth c H locs 0 0 (MQ below (gQ G r σ') ([.ref (G.2.2.1 31), .int a1].toArray) s 0 0 (gA G)) (F0 m 4 ls []) := by
    intro kL1 hKL1 nL1
    induction nL1 with
    | zero =>
      intro l1_3 l1_2 σL1 H locs ls h
      cases h
    | succ nL1 ihL1 =>
      intro l1_3 l1_2 σL1 H locs ls h hP hS hl
      rw [L1_X3_borneBy] at h
      refine lv_iload_n hx hb dX3_borneBy_4 rfl (lv_at hl 0 rfl) ?_
      refine lv_aload_n hx hb dX3_borneBy_5 rfl (lv_at hl 2 rfl) ?_
      refine g_get hx hb ht hown hE hP (by decide) gE_31 uX3 rfl 0 (by decide) m_189 rfl rfl dX3_borneBy_6 ?_
      refine lv_icmp_ge (tgt := 60) hx hb dX3_borneBy_9 (by decide) (fun c2 => ?_) (fun c2 => ?_)
      · have h := g_ift c2 h
        exact hKL1 _ _ _ _ _ _ h hP hS (lv_sub hl [0, 1, 2, 3] rfl)
      · have h := g_iff c2 h
        refine lv_aload_n hx hb dX3_borneBy_12 rfl (lv_at hl 2 rfl) ?_
        refine g_get hx hb ht hown hE hP (by decide) gE_31 uX3 rfl 6 (by decide) m_201 rfl rfl dX3_borneBy_13 ?_
        refine lv_iload_n hx hb dX3_borneBy_16 rfl (lv_at hl 0 rfl) ?_
        obtain ⟨i3, h⟩ := g_ix h
        refine g_iald hx hb hE hP (by decide) rfl (by decide) i3 dX3_borneBy_17 ?_
        refine lv_iconst (v := 2) hx hb dX3_borneBy_18 (by decide) ?_
        refine lv_icmp_ne (tgt := 31) hx hb dX3_borneBy_19 (by decide) (fun c4 => ?_) (fun c4 => ?_)
        · have h := g_iff c4 h
          refine lv_aload_n hx hb dX3_borneBy_31 rfl (lv_at hl 2 rfl) ?_
          refine g_get hx hb ht hown hE hP (by decide) gE_31 uX3 rfl 3 (by decide) m_195 rfl rfl dX3_borneBy_32 ?_
          refine lv_iload_n hx hb dX3_borneBy_35 rfl (lv_at hl 0 rfl) ?_
          obtain ⟨i5, h⟩ := g_ix h
          refine g_iald hx hb hE hP (by decide) rfl (by decide) i5 dX3_borneBy_36 ?_
          refine lv_topi (fun x6 ex6 => ?_)
          have h := g_nm ex6 h
          refine lv_istore (lv' := [(4, .int x6), (3, .int l1_3), (2, .int l1_2), (0, .ref (G.2.2.1 31)), (1, .int a1)]) hx hb dX3_borneBy_37 hl (by decide) rfl (fun ls hl => ?_)
          refine lv_iload hx hb dX3_borneBy_39 (lv_at hl 0 rfl) ?_
          refine lv_iload_n hx hb dX3_borneBy_41 rfl (lv_at hl 4 rfl) ?_
          refine lv_icmp_ne (tgt := 54) hx hb dX3_borneBy_42 (by decide) (fun c7 => ?_) (fun c7 => ?_)
          · have h := g_iff c7 h
            obtain ⟨x8, ex8⟩ : ∃ y : Int32, y = l1_3 + 1 := ⟨_, rfl⟩
            have h := g_nm ex8 h
            refine lv_iinc (v := x8) (lv' := [(3, .int x8), (4, .int x6), (2, .int l1_2), (0, .ref (G.2.2.1 31)), (1, .int a1)]) hx hb dX3_borneBy_54 hl (k := 1) rfl (by rw [ex8]; rfl) (by decide) rfl (fun ls hl => ?_)
            refine lv_goto (tgt := 4) hx hb dX3_borneBy_57 (by decide) ?_
            exact ihL1 _ _ _ _ _ _ h hP hS (lv_sub hl [0, 2, 3, 4] rfl)
          · have h := g_ift c7 h
            refine lv_iload_n hx hb dX3_borneBy_45 rfl (lv_at hl 2 rfl) ?_
            refine lv_aload_n hx hb dX3_borneBy_46 rfl (lv_at hl 3 rfl) ?_
            refine g_get hx hb ht hown hE hP (by decide) gE_31 uX3 rfl 5 (by decide) m_199 rfl rfl dX3_borneBy_47 ?_
            refine lv_iload_n hx hb dX3_borneBy_50 rfl (lv_at hl 1 rfl) ?_
            obtain ⟨i9, h⟩ := g_ix h
            refine g_iald hx hb hE hP (by decide) rfl (by decide) i9 dX3_borneBy_51 ?_
            refine lv_iadd hx hb dX3_borneBy_52 ?_
            refine lv_topi (fun x10 ex10 => ?_)
            have h := g_nm ex10 h
            refine lv_istore_n (lv' := [(2, .int x10), (4, .int x6), (3, .int l1_3), (0, .ref (G.2.2.1 31)), (1, .int a1)]) hx hb dX3_borneBy_53 rfl hl (by decide) rfl (fun ls hl => ?_)
            obtain ⟨x11, ex11⟩ : ∃ y : Int32, y = l1_3 + 1 := ⟨_, rfl⟩
            have h := g_nm ex11 h
            refine lv_iinc (v := x11) (lv' := [(3, .int x11), (2, .int x10), (4, .int x6), (0, .ref (G.2.2.1 31)), (1, .int a1)]) hx hb dX3_borneBy_54 hl (k := 2) rfl (by rw [ex11]; rfl) (by decide) rfl (fun ls hl => ?_)
            refine lv_goto (tgt := 4) hx hb dX3_borneBy_57 (by decide) ?_
            exact ihL1 _ _ _ _ _ _ h hP hS (lv_sub hl [0, 1, 3, 4] rfl)
        · have h := g_ift c4 h
          refine lv_aload_n hx hb dX3_borneBy_22 rfl (lv_at hl 2 rfl) ?_
          refine g_get hx hb ht hown hE hP (by decide) gE_31 uX3 rfl 2 (by decide) m_193 rfl rfl dX3_borneBy_23 ?_
          refine lv_iload_n hx hb dX3_borneBy_26 rfl (lv_at hl 0 rfl) ?_
          obtain ⟨i12, h⟩ := g_ix h
          refine g_iald hx hb hE hP (by decide) rfl (by decide) i12 dX3_borneBy_27 ?_
          refine lv_goto (tgt := 37) hx hb dX3_borneBy_28 (by decide) ?_
          refine lv_topi (fun x13 ex13 => ?_)
          have h := g_nm ex13 h
          refine lv_istore (lv' := [(4, .int x13), (3, .int l1_3), (2, .int l1_2), (0, .ref (G.2.2.1 31)), (1, .int a1)]) hx hb dX3_borneBy_37 hl (by decide) rfl (fun ls hl => ?_)
          refine lv_iload hx hb dX3_borneBy_39 (lv_at hl 0 rfl) ?_
          refine lv_iload_n hx hb dX3_borneBy_41 rfl (lv_at hl 4 rfl) ?_
          refine lv_icmp_ne (tgt := 54) hx hb dX3_borneBy_42 (by decide) (fun c14 => ?_) (fun c14 => ?_)
          · have h := g_iff c14 h
            obtain ⟨x15, ex15⟩ : ∃ y : Int32, y = l1_3 + 1 := ⟨_, rfl⟩
            have h := g_nm ex15 h
            refine lv_iinc (v := x15) (lv' := [(3, .int x15), (4, .int x13), (2, .int l1_2), (0, .ref (G.2.2.1 31)), (1, .int a1)]) hx hb dX3_borneBy_54 hl (k := 1) rfl (by rw [ex15]; rfl) (by decide) rfl (fun ls hl => ?_)
            refine lv_goto (tgt := 4) hx hb dX3_borneBy_57 (by decide) ?_
            exact ihL1 _ _ _ _ _ _ h hP hS (lv_sub hl [0, 2, 3, 4] rfl)
          · have h := g_ift c14 h
            refine lv_iload_n hx hb dX3_borneBy_45 rfl (lv_at hl 2 rfl) ?_
            refine lv_aload_n hx hb dX3_borneBy_46 rfl (lv_at hl 3 rfl) ?_
            refine g_get hx hb ht hown hE hP (by decide) gE_31 uX3 rfl 5 (by decide) m_199 rfl rfl dX3_borneBy_47 ?_
            refine lv_iload_n hx hb dX3_borneBy_50 rfl (lv_at hl 1 rfl) ?_
            obtain ⟨i16, h⟩ := g_ix h
            refine g_iald hx hb hE hP (by decide) rfl (by decide) i16 dX3_borneBy_51 ?_
            refine lv_iadd hx hb dX3_borneBy_52 ?_
            refine lv_topi (fun x17 ex17 => ?_)
            have h := g_nm ex17 h
            refine lv_istore_n (lv' := [(2, .int x17), (4, .int x13), (3, .int l1_3), (0, .ref (G.2.2.1 31)), (1, .int a1)]) hx hb dX3_borneBy_53 rfl hl (by decide) rfl (fun ls hl => ?_)
            obtain ⟨x18, ex18⟩ : ∃ y : Int32, y = l1_3 + 1 := ⟨_, rfl⟩
            have h := g_nm ex18 h
            refine lv_iinc (v := x18) (lv' := [(3, .int x18), (2, .int x17), (4, .int x13), (0, .ref (G.2.2.1 31)), (1, .int a1)]) hx hb dX3_borneBy_54 hl (k := 2) rfl (by rw [ex18]; rfl) (by decide) rfl (fun ls hl => ?_)
            refine lv_goto (tgt := 4) hx hb dX3_borneBy_57 (by decide) ?_
            exact ihL1 _ _ _ _ _ _ h hP hS (lv_sub hl [0, 1, 3, 4] rfl)
  refine LPL1 _ (fun z19 z20 σ21 H locs ls h hP hS hl => ?_) gFu _ _ _ _ _ _ h hP hS (lv_sub hl [0, 1, 2, 3] rfl)
  refine lv_iload_n hx hb dX3_borneBy_60 rfl (lv_at hl 1 rfl) ?_
  exact g_iret hx hb hr hlk hE hP hS h dX3_borneBy_61
end
