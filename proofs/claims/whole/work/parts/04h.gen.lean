def L1_X10_findOutcomes (a1 a2 a3 : Int32) : Nat → Int32 → Int32 → gSt → (Int32 → Int32 → gSt → gO) → gO
  | 0, _, _, _, _ => none
  | nL1 + 1, l1_5, l1_4, σL1, kL1 =>
    gIx 549 2 (if (σL1 102 (2 : Int32).toNatClampNeg) ≤ l1_5 then (kL1 l1_5 l1_4 σL1) else (gIx 549 ((297 : Int32) + l1_5) (if (σL1 102 ((297 : Int32) + l1_5).toNatClampNeg) = 1 then (gIx 8 l1_4 (gNm (gUp σL1 108 l1_4.toNatClampNeg l1_5) (fun σ8 => gNm (l1_4 + 1 : Int32) (fun x9 => gNm (l1_5 + 1 : Int32) (fun x10 => L1_X10_findOutcomes a1 a2 a3 nL1 x10 x9 σ8 kL1))))) else (gNm (l1_5 + 1 : Int32) (fun x6 => L1_X10_findOutcomes a1 a2 a3 nL1 x6 l1_4 σL1 kL1)))))
def L17_X10_findOutcomes (l14_5 z12 a1 a2 a3 : Int32) : Nat → Int32 → gSt → (Int32 → gSt → gO) → gO
  | 0, _, _, _ => none
  | nL17 + 1, l17_6, σL17, kL17 =>
    if z12 ≤ l17_6 then (kL17 l17_6 σL17) else (gIx 8 l17_6 (gNm (gUp σL17 101 7 ((σL17 101 7) ||| (((l14_5 >>> (l17_6 &&& 31)) &&& 1) <<< ((σL17 108 l17_6.toNatClampNeg) &&& 31)))) (fun σ20 => gNm (l17_6 + 1 : Int32) (fun x21 => L17_X10_findOutcomes l14_5 z12 a1 a2 a3 nL17 x21 σ20 kL17))))
def L14_X10_findOutcomes (z12 a1 a2 a3 : Int32) : Nat → Int32 → gSt → (Int32 → gSt → gO) → gO
  | 0, _, _, _ => none
  | nL14 + 1, l14_5, σL14, kL14 =>
    if ((1 : Int32) <<< (z12 &&& 31)) ≤ l14_5 then (kL14 l14_5 σL14) else (gNm (gUp σL14 101 7 0) (fun σ16 => L17_X10_findOutcomes l14_5 z12 a1 a2 a3 gFu 0 σ16 (fun z22 σ23 => gBd (M_X10_settlementOf a1 a2 a3 σ23) (fun r25 σ24 => if 0 ≤ r25 then (gIx 256 l14_5 (gNm (gUp σ24 109 l14_5.toNatClampNeg ((1 : Int32) <<< (r25 &&& 31))) (fun σ28 => gNm (l14_5 + 1 : Int32) (fun x29 => L14_X10_findOutcomes z12 a1 a2 a3 nL14 x29 σ28 kL14)))) else (gIx 256 l14_5 (gNm (gUp σ24 109 l14_5.toNatClampNeg 64) (fun σ31 => gNm (l14_5 + 1 : Int32) (fun x32 => L14_X10_findOutcomes z12 a1 a2 a3 nL14 x32 σ31 kL14))))))))
def M_X10_findOutcomes (a1 a2 a3 : Int32) (σ : gSt) : gO :=
  L1_X10_findOutcomes a1 a2 a3 gFu 0 0 σ (fun z11 z12 σ13 => L14_X10_findOutcomes z12 a1 a2 a3 gFu 0 σ13 (fun z33 σ34 => gNm (gUp σ34 101 7 0) (fun σ35 => some (z12, σ35))))
set_option maxHeartbeats 4000000 in
set_option maxRecDepth 100000 in
theorem c_X10_findOutcomes (l : Launch) (G : gPar) (a1 a2 a3 : Int32) (σ : gSt) {r : Int32} {σ' : gSt} (h : M_X10_findOutcomes a1 a2 a3 σ = some (r, σ')) : gC l G yX10_findOutcomes cX10_findOutcomes 7 (some .int) 4 104 [.ref (G.2.2.1 101), .int a1, .int a2, .int a3] σ r σ' := by
  refine gC_of (by decide) (Nat.le_of_ble_eq_true rfl) ?_
  intro p e s m below meth c hx hb hr ht hown hlk hml hE hP ls hl
  have hS : va_S (gA G) s.heap s.heap [] := va_S.rf
  have hl : lv_has ls 7 [(0, .ref (G.2.2.1 101)), (1, .int a1), (2, .int a2), (3, .int a3)] := hl
  unfold M_X10_findOutcomes at h
  refine lv_iconst (v := 0) hx hb dX10_findOutcomes_0 (by decide) ?_
  refine lv_istore (lv' := [(4, .int 0), (0, .ref (G.2.2.1 101)), (1, .int a1), (2, .int a2), (3, .int a3)]) hx hb dX10_findOutcomes_1 hl (by decide) rfl (fun ls hl => ?_)
  refine lv_iconst (v := 0) hx hb dX10_findOutcomes_3 (by decide) ?_
  refine lv_istore (lv' := [(5, .int 0), (4, .int 0), (0, .ref (G.2.2.1 101)), (1, .int a1), (2, .int a2), (3, .int a3)]) hx hb dX10_findOutcomes_4 hl (by decide) rfl (fun ls hl => ?_)
  have LPL1 : ∀ (kL1 : Int32 → Int32 → gSt → gO), (∀ (l1_5 l1_4 : Int32) (σL1 : gSt) (H : Heap) (locs : List Loc) (ls : Array Slot), kL1 l1_5 l1_4 σL1 = some (r, σ') → gW G σL1 H → va_S (gA G) s.heap H locs → lv_has ls 7 [(5, .int l1_5), (4, .int l1_4), (0, .ref (G.2.2.1 101)), (1, .int a1), (2, .int a2), (3, .int a3)] → W p l e (gRm 4 104) s m ([.ref (G.2.2.1 101), .int a1, .int a2, .int a3].toArray) below meth c H locs 0 0 (MQ below (gQ G r σ') ([.ref (G.2.2.1 101), .int a1, .int a2, .int a3].toArray) s 0 0 (gA G)) (F0 m 50 ls [])) → ∀ (nL1 : Nat) (l1_5 l1_4 : Int32) (σL1 : gSt) (H : Heap) (locs : List Loc) (ls : Array Slot), L1_X10_findOutcomes a1 a2 a3 nL1 l1_5 l1_4 σL1 kL1 = some (r, σ') → gW G σL1 H → va_S (gA G) s.heap H locs → lv_has ls 7 [(5, .int l1_5), (4, .int l1_4), (0, .ref (G.2.2.1 101)), (1, .int a1), (2, .int a2), (3, .int a3)] → W p l e (gRm 4 104) s m ([.ref (G.2.2.1 101), .int a1, .int a2, .int a3].toArray) below meth c H locs 0 0 (MQ below (gQ G r σ') ([.ref (G.2.2.1 101), .int a1, .int a2, .int a3].toArray) s 0 0 (gA G)) (F0 m 6 ls []) := by
    intro kL1 hKL1 nL1
    induction nL1 with
    | zero =>
      intro l1_5 l1_4 σL1 H locs ls h
      cases h
    | succ nL1 ihL1 =>
      intro l1_5 l1_4 σL1 H locs ls h hP hS hl
      rw [L1_X10_findOutcomes] at h
      refine lv_iload hx hb dX10_findOutcomes_6 (lv_at hl 0 rfl) ?_
      refine lv_aload_n hx hb dX10_findOutcomes_8 rfl (lv_at hl 2 rfl) ?_
      refine g_get hx hb ht hown hE hP (by decide) gE_101 uX10 rfl 0 (by decide) m_790 rfl rfl dX10_findOutcomes_9 ?_
      refine lv_iconst (v := 2) hx hb dX10_findOutcomes_12 (by decide) ?_
      obtain ⟨i2, h⟩ := g_ix h
      refine g_iald hx hb hE hP (by decide) rfl (by decide) i2 dX10_findOutcomes_13 ?_
      refine lv_icmp_ge (tgt := 50) hx hb dX10_findOutcomes_14 (by decide) (fun c3 => ?_) (fun c3 => ?_)
      · have h := g_ift c3 h
        exact hKL1 _ _ _ _ _ _ h hP hS (lv_sub hl [0, 1, 2, 3, 4, 5] rfl)
      · have h := g_iff c3 h
        refine lv_aload_n hx hb dX10_findOutcomes_17 rfl (lv_at hl 2 rfl) ?_
        refine g_get hx hb ht hown hE hP (by decide) gE_101 uX10 rfl 0 (by decide) m_790 rfl rfl dX10_findOutcomes_18 ?_
        refine lv_sipush (v := 297) hx hb dX10_findOutcomes_21 (by decide) ?_
        refine lv_iload hx hb dX10_findOutcomes_24 (lv_at hl 0 rfl) ?_
        refine lv_iadd hx hb dX10_findOutcomes_26 ?_
        obtain ⟨i4, h⟩ := g_ix h
        refine g_iald hx hb hE hP (by decide) rfl (by decide) i4 dX10_findOutcomes_27 ?_
        refine lv_iconst (v := 1) hx hb dX10_findOutcomes_28 (by decide) ?_
        refine lv_icmp_ne (tgt := 44) hx hb dX10_findOutcomes_29 (by decide) (fun c5 => ?_) (fun c5 => ?_)
        · have h := g_iff c5 h
          obtain ⟨x6, ex6⟩ : ∃ y : Int32, y = l1_5 + 1 := ⟨_, rfl⟩
          have h := g_nm ex6 h
          refine lv_iinc (v := x6) (lv' := [(5, .int x6), (4, .int l1_4), (0, .ref (G.2.2.1 101)), (1, .int a1), (2, .int a2), (3, .int a3)]) hx hb dX10_findOutcomes_44 hl (k := 0) rfl (by rw [ex6]; rfl) (by decide) rfl (fun ls hl => ?_)
          refine lv_goto (tgt := 6) hx hb dX10_findOutcomes_47 (by decide) ?_
          exact ihL1 _ _ _ _ _ _ h hP hS (lv_sub hl [0, 1, 2, 3, 4, 5] rfl)
        · have h := g_ift c5 h
          refine lv_aload_n hx hb dX10_findOutcomes_32 rfl (lv_at hl 2 rfl) ?_
          refine g_get hx hb ht hown hE hP (by decide) gE_101 uX10 rfl 10 (by decide) m_800 rfl rfl dX10_findOutcomes_33 ?_
          refine lv_iload hx hb dX10_findOutcomes_36 (lv_at hl 1 rfl) ?_
          refine lv_iload hx hb dX10_findOutcomes_38 (lv_at hl 0 rfl) ?_
          obtain ⟨i7, h⟩ := g_ix h
          refine g_iast hx hb hE hP hS (by decide) rfl (by decide) i7 dX10_findOutcomes_40 (fun H locs σ8 eσ8 hP hS => ?_)
          have h := g_nm eσ8 h
          obtain ⟨x9, ex9⟩ : ∃ y : Int32, y = l1_4 + 1 := ⟨_, rfl⟩
          have h := g_nm ex9 h
          refine lv_iinc (v := x9) (lv' := [(4, .int x9), (5, .int l1_5), (0, .ref (G.2.2.1 101)), (1, .int a1), (2, .int a2), (3, .int a3)]) hx hb dX10_findOutcomes_41 hl (k := 1) rfl (by rw [ex9]; rfl) (by decide) rfl (fun ls hl => ?_)
          obtain ⟨x10, ex10⟩ : ∃ y : Int32, y = l1_5 + 1 := ⟨_, rfl⟩
          have h := g_nm ex10 h
          refine lv_iinc (v := x10) (lv' := [(5, .int x10), (4, .int x9), (0, .ref (G.2.2.1 101)), (1, .int a1), (2, .int a2), (3, .int a3)]) hx hb dX10_findOutcomes_44 hl (k := 1) rfl (by rw [ex10]; rfl) (by decide) rfl (fun ls hl => ?_)
          refine lv_goto (tgt := 6) hx hb dX10_findOutcomes_47 (by decide) ?_
          exact ihL1 _ _ _ _ _ _ h hP hS (lv_sub hl [0, 1, 2, 3, 4, 5] rfl)
  refine LPL1 _ (fun z11 z12 σ13 H locs ls h hP hS hl => ?_) gFu _ _ _ _ _ _ h hP hS (lv_sub hl [0, 1, 2, 3, 4, 5] rfl)
  refine lv_iconst (v := 0) hx hb dX10_findOutcomes_50 (by decide) ?_
  refine lv_istore (lv' := [(5, .int 0), (4, .int z12), (0, .ref (G.2.2.1 101)), (1, .int a1), (2, .int a2), (3, .int a3)]) hx hb dX10_findOutcomes_51 hl (by decide) rfl (fun ls hl => ?_)
  have LPL14 : ∀ (kL14 : Int32 → gSt → gO), (∀ (l14_5 : Int32) (σL14 : gSt) (H : Heap) (locs : List Loc) (ls : Array Slot), kL14 l14_5 σL14 = some (r, σ') → gW G σL14 H → va_S (gA G) s.heap H locs → lv_has ls 7 [(5, .int l14_5), (4, .int z12), (0, .ref (G.2.2.1 101)), (1, .int a1), (2, .int a2), (3, .int a3)] → W p l e (gRm 4 104) s m ([.ref (G.2.2.1 101), .int a1, .int a2, .int a3].toArray) below meth c H locs 0 0 (MQ below (gQ G r σ') ([.ref (G.2.2.1 101), .int a1, .int a2, .int a3].toArray) s 0 0 (gA G)) (F0 m 143 ls [])) → ∀ (nL14 : Nat) (l14_5 : Int32) (σL14 : gSt) (H : Heap) (locs : List Loc) (ls : Array Slot), L14_X10_findOutcomes z12 a1 a2 a3 nL14 l14_5 σL14 kL14 = some (r, σ') → gW G σL14 H → va_S (gA G) s.heap H locs → lv_has ls 7 [(5, .int l14_5), (4, .int z12), (0, .ref (G.2.2.1 101)), (1, .int a1), (2, .int a2), (3, .int a3)] → W p l e (gRm 4 104) s m ([.ref (G.2.2.1 101), .int a1, .int a2, .int a3].toArray) below meth c H locs 0 0 (MQ below (gQ G r σ') ([.ref (G.2.2.1 101), .int a1, .int a2, .int a3].toArray) s 0 0 (gA G)) (F0 m 53 ls []) := by
    intro kL14 hKL14 nL14
    induction nL14 with
    | zero =>
      intro l14_5 σL14 H locs ls h
      cases h
    | succ nL14 ihL14 =>
      intro l14_5 σL14 H locs ls h hP hS hl
      rw [L14_X10_findOutcomes] at h
      refine lv_iload hx hb dX10_findOutcomes_53 (lv_at hl 0 rfl) ?_
      refine lv_iconst (v := 1) hx hb dX10_findOutcomes_55 (by decide) ?_
      refine lv_iload hx hb dX10_findOutcomes_56 (lv_at hl 1 rfl) ?_
      refine lv_ishl hx hb dX10_findOutcomes_58 ?_
      refine lv_icmp_ge (tgt := 143) hx hb dX10_findOutcomes_59 (by decide) (fun c15 => ?_) (fun c15 => ?_)
      · have h := g_ift c15 h
        exact hKL14 _ _ _ _ _ h hP hS (lv_sub hl [0, 1, 2, 3, 4, 5] rfl)
      · have h := g_iff c15 h
        refine lv_aload_n hx hb dX10_findOutcomes_62 rfl (lv_at hl 2 rfl) ?_
        refine lv_iconst (v := 0) hx hb dX10_findOutcomes_63 (by decide) ?_
        refine g_put hx hb ht hown hE hP hS (by decide) gE_101 uX10 tyX10_ok nmX10 rfl 7 (by decide) m_797 rfl rfl rfl rfl rfl (Nat.le_of_ble_eq_true rfl) rfl dX10_findOutcomes_64 (fun H locs σ16 eσ16 hP hS => ?_)
        have h := g_nm eσ16 h
        refine lv_iconst (v := 0) hx hb dX10_findOutcomes_67 (by decide) ?_
        refine lv_istore (lv' := [(6, .int 0), (5, .int l14_5), (4, .int z12), (0, .ref (G.2.2.1 101)), (1, .int a1), (2, .int a2), (3, .int a3)]) hx hb dX10_findOutcomes_68 hl (by decide) rfl (fun ls hl => ?_)
        have LPL17 : ∀ (kL17 : Int32 → gSt → gO), (∀ (l17_6 : Int32) (σL17 : gSt) (H : Heap) (locs : List Loc) (ls : Array Slot), kL17 l17_6 σL17 = some (r, σ') → gW G σL17 H → va_S (gA G) s.heap H locs → lv_has ls 7 [(6, .int l17_6), (5, .int l14_5), (4, .int z12), (0, .ref (G.2.2.1 101)), (1, .int a1), (2, .int a2), (3, .int a3)] → W p l e (gRm 4 104) s m ([.ref (G.2.2.1 101), .int a1, .int a2, .int a3].toArray) below meth c H locs 0 0 (MQ below (gQ G r σ') ([.ref (G.2.2.1 101), .int a1, .int a2, .int a3].toArray) s 0 0 (gA G)) (F0 m 107 ls [])) → ∀ (nL17 : Nat) (l17_6 : Int32) (σL17 : gSt) (H : Heap) (locs : List Loc) (ls : Array Slot), L17_X10_findOutcomes l14_5 z12 a1 a2 a3 nL17 l17_6 σL17 kL17 = some (r, σ') → gW G σL17 H → va_S (gA G) s.heap H locs → lv_has ls 7 [(6, .int l17_6), (5, .int l14_5), (4, .int z12), (0, .ref (G.2.2.1 101)), (1, .int a1), (2, .int a2), (3, .int a3)] → W p l e (gRm 4 104) s m ([.ref (G.2.2.1 101), .int a1, .int a2, .int a3].toArray) below meth c H locs 0 0 (MQ below (gQ G r σ') ([.ref (G.2.2.1 101), .int a1, .int a2, .int a3].toArray) s 0 0 (gA G)) (F0 m 70 ls []) := by
          intro kL17 hKL17 nL17
          induction nL17 with
          | zero =>
            intro l17_6 σL17 H locs ls h
            cases h
          | succ nL17 ihL17 =>
            intro l17_6 σL17 H locs ls h hP hS hl
            rw [L17_X10_findOutcomes] at h
            refine lv_iload hx hb dX10_findOutcomes_70 (lv_at hl 0 rfl) ?_
            refine lv_iload hx hb dX10_findOutcomes_72 (lv_at hl 2 rfl) ?_
            refine lv_icmp_ge (tgt := 107) hx hb dX10_findOutcomes_74 (by decide) (fun c18 => ?_) (fun c18 => ?_)
            · have h := g_ift c18 h
              exact hKL17 _ _ _ _ _ h hP hS (lv_sub hl [0, 1, 2, 3, 4, 5, 6] rfl)
            · have h := g_iff c18 h
              refine lv_aload_n hx hb dX10_findOutcomes_77 rfl (lv_at hl 3 rfl) ?_
              refine lv_dup hx hb dX10_findOutcomes_78 rfl ?_
              refine g_get hx hb ht hown hE hP (by decide) gE_101 uX10 rfl 7 (by decide) m_797 rfl rfl dX10_findOutcomes_79 ?_
              refine lv_iload hx hb dX10_findOutcomes_82 (lv_at hl 1 rfl) ?_
              refine lv_iload hx hb dX10_findOutcomes_84 (lv_at hl 0 rfl) ?_
              refine lv_ishr hx hb dX10_findOutcomes_86 ?_
              refine lv_iconst (v := 1) hx hb dX10_findOutcomes_87 (by decide) ?_
              refine lv_iand hx hb dX10_findOutcomes_88 ?_
              refine lv_aload_n hx hb dX10_findOutcomes_89 rfl (lv_at hl 3 rfl) ?_
              refine g_get hx hb ht hown hE hP (by decide) gE_101 uX10 rfl 10 (by decide) m_800 rfl rfl dX10_findOutcomes_90 ?_
              refine lv_iload hx hb dX10_findOutcomes_93 (lv_at hl 0 rfl) ?_
              obtain ⟨i19, h⟩ := g_ix h
              refine g_iald hx hb hE hP (by decide) rfl (by decide) i19 dX10_findOutcomes_95 ?_
              refine lv_ishl hx hb dX10_findOutcomes_96 ?_
              refine lv_ior hx hb dX10_findOutcomes_97 ?_
              refine g_put hx hb ht hown hE hP hS (by decide) gE_101 uX10 tyX10_ok nmX10 rfl 7 (by decide) m_797 rfl rfl rfl rfl rfl (Nat.le_of_ble_eq_true rfl) rfl dX10_findOutcomes_98 (fun H locs σ20 eσ20 hP hS => ?_)
              have h := g_nm eσ20 h
              obtain ⟨x21, ex21⟩ : ∃ y : Int32, y = l17_6 + 1 := ⟨_, rfl⟩
              have h := g_nm ex21 h
              refine lv_iinc (v := x21) (lv' := [(6, .int x21), (5, .int l14_5), (4, .int z12), (0, .ref (G.2.2.1 101)), (1, .int a1), (2, .int a2), (3, .int a3)]) hx hb dX10_findOutcomes_101 hl (k := 0) rfl (by rw [ex21]; rfl) (by decide) rfl (fun ls hl => ?_)
              refine lv_goto (tgt := 70) hx hb dX10_findOutcomes_104 (by decide) ?_
              exact ihL17 _ _ _ _ _ h hP hS (lv_sub hl [0, 1, 2, 3, 4, 5, 6] rfl)
        refine LPL17 _ (fun z22 σ23 H locs ls h hP hS hl => ?_) gFu _ _ _ _ _ h hP hS (lv_sub hl [0, 1, 2, 3, 4, 5, 6] rfl)
        refine lv_aload_n hx hb dX10_findOutcomes_107 rfl (lv_at hl 3 rfl) ?_
        refine lv_iload_n hx hb dX10_findOutcomes_108 rfl (lv_at hl 4 rfl) ?_
        refine lv_iload_n hx hb dX10_findOutcomes_109 rfl (lv_at hl 5 rfl) ?_
        refine lv_iload_n hx hb dX10_findOutcomes_110 rfl (lv_at hl 6 rfl) ?_
        obtain ⟨r25, σ24, hcr25, h⟩ := g_bd h
        refine g_callV (As := [.int a1, .int a2, .int a3]) (n := 3) hx hb hml hown ht (c_X10_settlementOf l G _ _ _ _ hcr25) m_930 m_932 m_23 m_41 m_933 (by decide +kernel) (by decide) gE_101 rfl hE hP hS (fun _ h => h) (fun _ _ h => h) rfl hl.1 rfl (Nat.le_of_ble_eq_true rfl) dX10_findOutcomes_111 ⟨by decide, by decide⟩ ⟨Nat.zero_le _, Nat.zero_le _⟩ (fun H locs hP hS => ?_)
        refine lv_istore (lv' := [(6, .int r25), (5, .int l14_5), (4, .int z12), (0, .ref (G.2.2.1 101)), (1, .int a1), (2, .int a2), (3, .int a3)]) hx hb dX10_findOutcomes_114 hl (by decide) rfl (fun ls hl => ?_)
        refine lv_aload_n hx hb dX10_findOutcomes_116 rfl (lv_at hl 3 rfl) ?_
        refine g_get hx hb ht hown hE hP (by decide) gE_101 uX10 rfl 11 (by decide) m_801 rfl rfl dX10_findOutcomes_117 ?_
        refine lv_iload hx hb dX10_findOutcomes_120 (lv_at hl 1 rfl) ?_
        refine lv_iload hx hb dX10_findOutcomes_122 (lv_at hl 0 rfl) ?_
        refine lv_if_ge (tgt := 132) hx hb dX10_findOutcomes_124 (by decide) (fun c26 => ?_) (fun c26 => ?_)
        · have h := g_ift c26 h
          refine lv_iconst (v := 1) hx hb dX10_findOutcomes_132 (by decide) ?_
          refine lv_iload hx hb dX10_findOutcomes_133 (lv_at hl 0 rfl) ?_
          refine lv_ishl hx hb dX10_findOutcomes_135 ?_
          obtain ⟨i27, h⟩ := g_ix h
          refine g_iast hx hb hE hP hS (by decide) rfl (by decide) i27 dX10_findOutcomes_136 (fun H locs σ28 eσ28 hP hS => ?_)
          have h := g_nm eσ28 h
          obtain ⟨x29, ex29⟩ : ∃ y : Int32, y = l14_5 + 1 := ⟨_, rfl⟩
          have h := g_nm ex29 h
          refine lv_iinc (v := x29) (lv' := [(5, .int x29), (6, .int r25), (4, .int z12), (0, .ref (G.2.2.1 101)), (1, .int a1), (2, .int a2), (3, .int a3)]) hx hb dX10_findOutcomes_137 hl (k := 1) rfl (by rw [ex29]; rfl) (by decide) rfl (fun ls hl => ?_)
          refine lv_goto (tgt := 53) hx hb dX10_findOutcomes_140 (by decide) ?_
          exact ihL14 _ _ _ _ _ h hP hS (lv_sub hl [0, 2, 3, 4, 5, 6] rfl)
        · have h := g_iff c26 h
          refine lv_bipush (v := 64) hx hb dX10_findOutcomes_127 (by decide) ?_
          refine lv_goto (tgt := 136) hx hb dX10_findOutcomes_129 (by decide) ?_
          obtain ⟨i30, h⟩ := g_ix h
          refine g_iast hx hb hE hP hS (by decide) rfl (by decide) i30 dX10_findOutcomes_136 (fun H locs σ31 eσ31 hP hS => ?_)
          have h := g_nm eσ31 h
          obtain ⟨x32, ex32⟩ : ∃ y : Int32, y = l14_5 + 1 := ⟨_, rfl⟩
          have h := g_nm ex32 h
          refine lv_iinc (v := x32) (lv' := [(5, .int x32), (6, .int r25), (4, .int z12), (0, .ref (G.2.2.1 101)), (1, .int a1), (2, .int a2), (3, .int a3)]) hx hb dX10_findOutcomes_137 hl (k := 1) rfl (by rw [ex32]; rfl) (by decide) rfl (fun ls hl => ?_)
          refine lv_goto (tgt := 53) hx hb dX10_findOutcomes_140 (by decide) ?_
          exact ihL14 _ _ _ _ _ h hP hS (lv_sub hl [0, 2, 3, 4, 5, 6] rfl)
  refine LPL14 _ (fun z33 σ34 H locs ls h hP hS hl => ?_) gFu _ _ _ _ _ h hP hS (lv_sub hl [0, 1, 2, 3, 4, 5] rfl)
  refine lv_aload_n hx hb dX10_findOutcomes_143 rfl (lv_at hl 2 rfl) ?_
  refine lv_iconst (v := 0) hx hb dX10_findOutcomes_144 (by decide) ?_
  refine g_put hx hb ht hown hE hP hS (by decide) gE_101 uX10 tyX10_ok nmX10 rfl 7 (by decide) m_797 rfl rfl rfl rfl rfl (Nat.le_of_ble_eq_true rfl) rfl dX10_findOutcomes_145 (fun H locs σ35 eσ35 hP hS => ?_)
  have h := g_nm eσ35 h
  refine lv_iload hx hb dX10_findOutcomes_148 (lv_at hl 1 rfl) ?_
  exact g_iret hx hb hr hlk hE hP hS h dX10_findOutcomes_150

def L6_X10_could (r5 a1 a2 a3 : Int32) : Nat → Int32 → Int32 → gSt → (Int32 → Int32 → gSt → gO) → gO
  | 0, _, _, _, _ => none
  | nL6 + 1, l6_6, l6_5, σL6, kL6 =>
    if ((1 : Int32) <<< (r5 &&& 31)) ≤ l6_6 then (kL6 l6_6 l6_5 σL6) else (gIx 256 l6_6 (gNm ((l6_5 ||| (σL6 109 l6_6.toNatClampNeg)) : Int32) (fun x9 => gNm (l6_6 + 1 : Int32) (fun x10 => L6_X10_could r5 a1 a2 a3 nL6 x10 x9 σL6 kL6))))
def M_X10_could (a1 a2 a3 : Int32) (σ : gSt) : gO :=
  gBd (M_X10_canAsk a1 a2 a3 σ) (fun r2 σ1 => if r2 = 0 then (gBd (M_X10_finding (-100001) σ1) (fun r15 σ14 => some (r15, σ14))) else (gBd (M_X10_findOutcomes a1 a2 a3 σ1) (fun r5 σ4 => L6_X10_could r5 a1 a2 a3 gFu 0 0 σ4 (fun z11 z12 σ13 => some (z12, σ13)))))
set_option maxHeartbeats 4000000 in
set_option maxRecDepth 100000 in
theorem c_X10_could (l : Launch) (G : gPar) (a1 a2 a3 : Int32) (σ : gSt) {r : Int32} {σ' : gSt} (h : M_X10_could a1 a2 a3 σ = some (r, σ')) : gC l G yX10_could cX10_could 7 (some .int) 5 130 [.ref (G.2.2.1 101), .int a1, .int a2, .int a3] σ r σ' := by
  refine gC_of (by decide) (Nat.le_of_ble_eq_true rfl) ?_
  intro p e s m below meth c hx hb hr ht hown hlk hml hE hP ls hl
  have hS : va_S (gA G) s.heap s.heap [] := va_S.rf
  have hl : lv_has ls 7 [(0, .ref (G.2.2.1 101)), (1, .int a1), (2, .int a2), (3, .int a3)] := hl
  unfold M_X10_could at h
  refine lv_aload_n hx hb dX10_could_0 rfl (lv_at hl 0 rfl) ?_
  refine lv_iload_n hx hb dX10_could_1 rfl (lv_at hl 1 rfl) ?_
  refine lv_iload_n hx hb dX10_could_2 rfl (lv_at hl 2 rfl) ?_
  refine lv_iload_n hx hb dX10_could_3 rfl (lv_at hl 3 rfl) ?_
  obtain ⟨r2, σ1, hcr2, h⟩ := g_bd h
  refine g_callV (As := [.int a1, .int a2, .int a3]) (n := 3) hx hb hml hown ht (c_X10_canAsk l G _ _ _ _ hcr2) m_910 m_912 m_19 m_41 m_913 (by decide +kernel) (by decide) gE_101 rfl hE hP hS (fun _ h => h) (fun _ _ h => h) rfl hl.1 rfl (Nat.le_of_ble_eq_true rfl) dX10_could_4 ⟨by decide, by decide⟩ ⟨Nat.zero_le _, Nat.zero_le _⟩ (fun H locs hP hS => ?_)
  refine lv_if_ne (tgt := 17) hx hb dX10_could_7 (by decide) (fun c3 => ?_) (fun c3 => ?_)
  · have h := g_iff c3 h
    refine lv_aload_n hx hb dX10_could_17 rfl (lv_at hl 0 rfl) ?_
    refine lv_iload_n hx hb dX10_could_18 rfl (lv_at hl 1 rfl) ?_
    refine lv_iload_n hx hb dX10_could_19 rfl (lv_at hl 2 rfl) ?_
    refine lv_iload_n hx hb dX10_could_20 rfl (lv_at hl 3 rfl) ?_
    obtain ⟨r5, σ4, hcr5, h⟩ := g_bd h
    refine g_callV (As := [.int a1, .int a2, .int a3]) (n := 3) hx hb hml hown ht (c_X10_findOutcomes l G _ _ _ _ hcr5) m_946 m_948 m_25 m_41 m_949 (by decide +kernel) (by decide) gE_101 rfl hE hP hS (fun _ h => h) (fun _ _ h => h) rfl hl.1 rfl (Nat.le_of_ble_eq_true rfl) dX10_could_21 ⟨by decide, by decide⟩ ⟨Nat.zero_le _, Nat.zero_le _⟩ (fun H locs hP hS => ?_)
    refine lv_istore (lv' := [(4, .int r5), (0, .ref (G.2.2.1 101)), (1, .int a1), (2, .int a2), (3, .int a3)]) hx hb dX10_could_24 hl (by decide) rfl (fun ls hl => ?_)
    refine lv_iconst (v := 0) hx hb dX10_could_26 (by decide) ?_
    refine lv_istore (lv' := [(5, .int 0), (4, .int r5), (0, .ref (G.2.2.1 101)), (1, .int a1), (2, .int a2), (3, .int a3)]) hx hb dX10_could_27 hl (by decide) rfl (fun ls hl => ?_)
    refine lv_iconst (v := 0) hx hb dX10_could_29 (by decide) ?_
    refine lv_istore (lv' := [(6, .int 0), (5, .int 0), (4, .int r5), (0, .ref (G.2.2.1 101)), (1, .int a1), (2, .int a2), (3, .int a3)]) hx hb dX10_could_30 hl (by decide) rfl (fun ls hl => ?_)
    have LPL6 : ∀ (kL6 : Int32 → Int32 → gSt → gO), (∀ (l6_6 l6_5 : Int32) (σL6 : gSt) (H : Heap) (locs : List Loc) (ls : Array Slot), kL6 l6_6 l6_5 σL6 = some (r, σ') → gW G σL6 H → va_S (gA G) s.heap H locs → lv_has ls 7 [(6, .int l6_6), (5, .int l6_5), (4, .int r5), (0, .ref (G.2.2.1 101)), (1, .int a1), (2, .int a2), (3, .int a3)] → W p l e (gRm 5 130) s m ([.ref (G.2.2.1 101), .int a1, .int a2, .int a3].toArray) below meth c H locs 0 0 (MQ below (gQ G r σ') ([.ref (G.2.2.1 101), .int a1, .int a2, .int a3].toArray) s 0 0 (gA G)) (F0 m 59 ls [])) → ∀ (nL6 : Nat) (l6_6 l6_5 : Int32) (σL6 : gSt) (H : Heap) (locs : List Loc) (ls : Array Slot), L6_X10_could r5 a1 a2 a3 nL6 l6_6 l6_5 σL6 kL6 = some (r, σ') → gW G σL6 H → va_S (gA G) s.heap H locs → lv_has ls 7 [(6, .int l6_6), (5, .int l6_5), (4, .int r5), (0, .ref (G.2.2.1 101)), (1, .int a1), (2, .int a2), (3, .int a3)] → W p l e (gRm 5 130) s m ([.ref (G.2.2.1 101), .int a1, .int a2, .int a3].toArray) below meth c H locs 0 0 (MQ below (gQ G r σ') ([.ref (G.2.2.1 101), .int a1, .int a2, .int a3].toArray) s 0 0 (gA G)) (F0 m 32 ls []) := by
      intro kL6 hKL6 nL6
      induction nL6 with
      | zero =>
        intro l6_6 l6_5 σL6 H locs ls h
        cases h
      | succ nL6 ihL6 =>
        intro l6_6 l6_5 σL6 H locs ls h hP hS hl
        rw [L6_X10_could] at h
        refine lv_iload hx hb dX10_could_32 (lv_at hl 0 rfl) ?_
        refine lv_iconst (v := 1) hx hb dX10_could_34 (by decide) ?_
        refine lv_iload hx hb dX10_could_35 (lv_at hl 2 rfl) ?_
        refine lv_ishl hx hb dX10_could_37 ?_
        refine lv_icmp_ge (tgt := 59) hx hb dX10_could_38 (by decide) (fun c7 => ?_) (fun c7 => ?_)
        · have h := g_ift c7 h
          exact hKL6 _ _ _ _ _ _ h hP hS (lv_sub hl [0, 1, 2, 3, 4, 5, 6] rfl)
        · have h := g_iff c7 h
          refine lv_iload hx hb dX10_could_41 (lv_at hl 1 rfl) ?_
          refine lv_aload_n hx hb dX10_could_43 rfl (lv_at hl 3 rfl) ?_
          refine g_get hx hb ht hown hE hP (by decide) gE_101 uX10 rfl 11 (by decide) m_801 rfl rfl dX10_could_44 ?_
          refine lv_iload hx hb dX10_could_47 (lv_at hl 0 rfl) ?_
          obtain ⟨i8, h⟩ := g_ix h
          refine g_iald hx hb hE hP (by decide) rfl (by decide) i8 dX10_could_49 ?_
          refine lv_ior hx hb dX10_could_50 ?_
          refine lv_topi (fun x9 ex9 => ?_)
          have h := g_nm ex9 h
          refine lv_istore (lv' := [(5, .int x9), (6, .int l6_6), (4, .int r5), (0, .ref (G.2.2.1 101)), (1, .int a1), (2, .int a2), (3, .int a3)]) hx hb dX10_could_51 hl (by decide) rfl (fun ls hl => ?_)
          obtain ⟨x10, ex10⟩ : ∃ y : Int32, y = l6_6 + 1 := ⟨_, rfl⟩
          have h := g_nm ex10 h
          refine lv_iinc (v := x10) (lv' := [(6, .int x10), (5, .int x9), (4, .int r5), (0, .ref (G.2.2.1 101)), (1, .int a1), (2, .int a2), (3, .int a3)]) hx hb dX10_could_53 hl (k := 1) rfl (by rw [ex10]; rfl) (by decide) rfl (fun ls hl => ?_)
          refine lv_goto (tgt := 32) hx hb dX10_could_56 (by decide) ?_
          exact ihL6 _ _ _ _ _ _ h hP hS (lv_sub hl [0, 1, 2, 3, 4, 5, 6] rfl)
    refine LPL6 _ (fun z11 z12 σ13 H locs ls h hP hS hl => ?_) gFu _ _ _ _ _ _ h hP hS (lv_sub hl [0, 1, 2, 3, 4, 5, 6] rfl)
    refine lv_iload hx hb dX10_could_59 (lv_at hl 1 rfl) ?_
    exact g_iret hx hb hr hlk hE hP hS h dX10_could_61
  · have h := g_ift c3 h
    refine lv_aload_n hx hb dX10_could_10 rfl (lv_at hl 0 rfl) ?_
    refine lv_ldc hx hb hown (ht _ m_837) dX10_could_11 ?_
    obtain ⟨r15, σ14, hcr15, h⟩ := g_bd h
    refine g_callV (As := [.int (-100001)]) (n := 1) hx hb hml hown ht (c_X10_finding l G _ _ hcr15) m_838 m_840 m_14 m_41 m_841 (by decide +kernel) (by decide) gE_101 rfl hE hP hS (fun _ h => h) (fun _ _ h => h) rfl hl.1 rfl (Nat.le_of_ble_eq_true rfl) dX10_could_13 ⟨by decide, by decide⟩ ⟨Nat.zero_le _, Nat.zero_le _⟩ (fun H locs hP hS => ?_)
    exact g_iret hx hb hr hlk hE hP hS h dX10_could_16

def L1_X10_many (a1 : Int32) : Nat → Int32 → Int32 → gSt → (Int32 → Int32 → gSt → gO) → gO
  | 0, _, _, _, _ => none
  | nL1 + 1, l1_2, l1_1, σL1, kL1 =>
    if 7 ≤ l1_2 then (kL1 l1_2 l1_1 σL1) else (gNm ((l1_1 + ((a1 >>> (l1_2 &&& 31)) &&& 1)) : Int32) (fun x3 => gNm (l1_2 + 1 : Int32) (fun x4 => L1_X10_many a1 nL1 x4 x3 σL1 kL1)))
def M_X10_many (a1 : Int32) (σ : gSt) : gO :=
  L1_X10_many a1 gFu 0 0 σ (fun z5 z6 σ7 => some (z6, σ7))
set_option maxHeartbeats 4000000 in
set_option maxRecDepth 100000 in
theorem c_X10_many (l : Launch) (G : gPar) (a1 : Int32) (σ : gSt) {r : Int32} {σ' : gSt} (h : M_X10_many a1 σ = some (r, σ')) : gC l G yX10_many cX10_many 3 (some .int) 0 0 [.int a1] σ r σ' := by
  refine gC_of (by decide) (Nat.le_of_ble_eq_true rfl) ?_
  intro p e s m below meth c hx hb hr ht hown hlk hml hE hP ls hl
  have hS : va_S (gA G) s.heap s.heap [] := va_S.rf
  have hl : lv_has ls 3 [(0, .int a1)] := hl
  unfold M_X10_many at h
  refine lv_iconst (v := 0) hx hb dX10_many_0 (by decide) ?_
  refine lv_istore_n (lv' := [(1, .int 0), (0, .int a1)]) hx hb dX10_many_1 rfl hl (by decide) rfl (fun ls hl => ?_)
  refine lv_iconst (v := 0) hx hb dX10_many_2 (by decide) ?_
  refine lv_istore_n (lv' := [(2, .int 0), (1, .int 0), (0, .int a1)]) hx hb dX10_many_3 rfl hl (by decide) rfl (fun ls hl => ?_)
  have LPL1 : ∀ (kL1 : Int32 → Int32 → gSt → gO), (∀ (l1_2 l1_1 : Int32) (σL1 : gSt) (H : Heap) (locs : List Loc) (ls : Array Slot), kL1 l1_2 l1_1 σL1 = some (r, σ') → gW G σL1 H → va_S (gA G) s.heap H locs → lv_has ls 3 [(2, .int l1_2), (1, .int l1_1), (0, .int a1)] → W p l e (gRm 0 0) s m ([.int a1].toArray) below meth c H locs 0 0 (MQ below (gQ G r σ') ([.int a1].toArray) s 0 0 (gA G)) (F0 m 24 ls [])) → ∀ (nL1 : Nat) (l1_2 l1_1 : Int32) (σL1 : gSt) (H : Heap) (locs : List Loc) (ls : Array Slot), L1_X10_many a1 nL1 l1_2 l1_1 σL1 kL1 = some (r, σ') → gW G σL1 H → va_S (gA G) s.heap H locs → lv_has ls 3 [(2, .int l1_2), (1, .int l1_1), (0, .int a1)] → W p l e (gRm 0 0) s m ([.int a1].toArray) below meth c H locs 0 0 (MQ below (gQ G r σ') ([.int a1].toArray) s 0 0 (gA G)) (F0 m 4 ls []) := by
    intro kL1 hKL1 nL1
    induction nL1 with
    | zero =>
      intro l1_2 l1_1 σL1 H locs ls h
      cases h
    | succ nL1 ihL1 =>
      intro l1_2 l1_1 σL1 H locs ls h hP hS hl
      rw [L1_X10_many] at h
      refine lv_iload_n hx hb dX10_many_4 rfl (lv_at hl 0 rfl) ?_
      refine lv_bipush (v := 7) hx hb dX10_many_5 (by decide) ?_
      refine lv_icmp_ge (tgt := 24) hx hb dX10_many_7 (by decide) (fun c2 => ?_) (fun c2 => ?_)
      · have h := g_ift c2 h
        exact hKL1 _ _ _ _ _ _ h hP hS (lv_sub hl [0, 1, 2] rfl)
      · have h := g_iff c2 h
        refine lv_iload_n hx hb dX10_many_10 rfl (lv_at hl 1 rfl) ?_
        refine lv_iload_n hx hb dX10_many_11 rfl (lv_at hl 2 rfl) ?_
        refine lv_iload_n hx hb dX10_many_12 rfl (lv_at hl 0 rfl) ?_
        refine lv_ishr hx hb dX10_many_13 ?_
        refine lv_iconst (v := 1) hx hb dX10_many_14 (by decide) ?_
        refine lv_iand hx hb dX10_many_15 ?_
        refine lv_iadd hx hb dX10_many_16 ?_
        refine lv_topi (fun x3 ex3 => ?_)
        have h := g_nm ex3 h
        refine lv_istore_n (lv' := [(1, .int x3), (2, .int l1_2), (0, .int a1)]) hx hb dX10_many_17 rfl hl (by decide) rfl (fun ls hl => ?_)
        obtain ⟨x4, ex4⟩ : ∃ y : Int32, y = l1_2 + 1 := ⟨_, rfl⟩
        have h := g_nm ex4 h
        refine lv_iinc (v := x4) (lv' := [(2, .int x4), (1, .int x3), (0, .int a1)]) hx hb dX10_many_18 hl (k := 1) rfl (by rw [ex4]; rfl) (by decide) rfl (fun ls hl => ?_)
        refine lv_goto (tgt := 4) hx hb dX10_many_21 (by decide) ?_
        exact ihL1 _ _ _ _ _ _ h hP hS (lv_sub hl [0, 1, 2] rfl)
  refine LPL1 _ (fun z5 z6 σ7 H locs ls h hP hS hl => ?_) gFu _ _ _ _ _ _ h hP hS (lv_sub hl [0, 1, 2] rfl)
  refine lv_iload_n hx hb dX10_many_24 rfl (lv_at hl 1 rfl) ?_
  exact g_iret hx hb hr hlk hE hP hS h dX10_many_25

def L8_X10_question (l6_7 l6_6 l6_5 r5 a1 a2 a3 : Int32) : Nat → Int32 → Int32 → Int32 → gSt → (Int32 → Int32 → Int32 → gSt → gO) → gO
  | 0, _, _, _, _, _ => none
  | nL8 + 1, l8_10, l8_9, l8_8, σL8, kL8 =>
    if ((1 : Int32) <<< (r5 &&& 31)) ≤ l8_10 then (kL8 l8_10 l8_9 l8_8 σL8) else (if ((l8_10 >>> (l6_7 &&& 31)) &&& 1) = 0 then (gIx 256 l8_10 (gNm ((l8_8 ||| (σL8 109 l8_10.toNatClampNeg)) : Int32) (fun x19 => if ((l8_10 >>> (l6_7 &&& 31)) &&& 1) = 1 then (gIx 256 l8_10 (gNm ((l8_9 ||| (σL8 109 l8_10.toNatClampNeg)) : Int32) (fun x24 => gNm (l8_10 + 1 : Int32) (fun x25 => L8_X10_question l6_7 l6_6 l6_5 r5 a1 a2 a3 nL8 x25 x24 x19 σL8 kL8)))) else (gNm ((l8_9 ||| 0) : Int32) (fun x21 => gNm (l8_10 + 1 : Int32) (fun x22 => L8_X10_question l6_7 l6_6 l6_5 r5 a1 a2 a3 nL8 x22 x21 x19 σL8 kL8)))))) else (gNm ((l8_8 ||| 0) : Int32) (fun x11 => if ((l8_10 >>> (l6_7 &&& 31)) &&& 1) = 1 then (gIx 256 l8_10 (gNm ((l8_9 ||| (σL8 109 l8_10.toNatClampNeg)) : Int32) (fun x16 => gNm (l8_10 + 1 : Int32) (fun x17 => L8_X10_question l6_7 l6_6 l6_5 r5 a1 a2 a3 nL8 x17 x16 x11 σL8 kL8)))) else (gNm ((l8_9 ||| 0) : Int32) (fun x13 => gNm (l8_10 + 1 : Int32) (fun x14 => L8_X10_question l6_7 l6_6 l6_5 r5 a1 a2 a3 nL8 x14 x13 x11 σL8 kL8))))))
def L6_X10_question (r5 a1 a2 a3 : Int32) : Nat → Int32 → Int32 → Int32 → gSt → (Int32 → Int32 → Int32 → gSt → gO) → gO
  | 0, _, _, _, _, _ => none
  | nL6 + 1, l6_7, l6_6, l6_5, σL6, kL6 =>
    if r5 ≤ l6_7 then (kL6 l6_7 l6_6 l6_5 σL6) else (L8_X10_question l6_7 l6_6 l6_5 r5 a1 a2 a3 gFu 0 0 0 σL6 (fun z26 z27 z28 σ29 => gBd (M_X10_many z28 σ29) (fun r31 σ30 => gBd (M_X10_many z27 σ30) (fun r33 σ32 => gNm ((if r31 < r33 then r33 else r31) : Int32) (fun x34 => if l6_6 ≤ x34 then (gNm (l6_7 + 1 : Int32) (fun x36 => L6_X10_question r5 a1 a2 a3 nL6 x36 l6_6 l6_5 σ32 kL6)) else (gIx 8 l6_7 (gNm ((σ32 108 l6_7.toNatClampNeg) : Int32) (fun x38 => gNm (l6_7 + 1 : Int32) (fun x39 => L6_X10_question r5 a1 a2 a3 nL6 x39 x34 x38 σ32 kL6)))))))))
def M_X10_question (a1 a2 a3 : Int32) (σ : gSt) : gO :=
  gBd (M_X10_canAsk a1 a2 a3 σ) (fun r2 σ1 => if r2 = 0 then (gBd (M_X10_finding (-100001) σ1) (fun r48 σ47 => some (r48, σ47))) else (gBd (M_X10_findOutcomes a1 a2 a3 σ1) (fun r5 σ4 => L6_X10_question r5 a1 a2 a3 gFu 0 100 (-1) σ4 (fun z40 z41 z42 σ43 => if 0 ≤ z42 then (some (z42, σ43)) else (gBd (M_X10_finding (-100006) σ43) (fun r46 σ45 => some (r46, σ45)))))))
set_option maxHeartbeats 4000000 in
set_option maxRecDepth 100000 in
theorem c_X10_question (l : Launch) (G : gPar) (a1 a2 a3 : Int32) (σ : gSt) {r : Int32} {σ' : gSt} (h : M_X10_question a1 a2 a3 σ = some (r, σ')) : gC l G yX10_question cX10_question 11 (some .int) 5 130 [.ref (G.2.2.1 101), .int a1, .int a2, .int a3] σ r σ' := by
  refine gC_of (by decide) (Nat.le_of_ble_eq_true rfl) ?_
  intro p e s m below meth c hx hb hr ht hown hlk hml hE hP ls hl
  have hS : va_S (gA G) s.heap s.heap [] := va_S.rf
  have hl : lv_has ls 11 [(0, .ref (G.2.2.1 101)), (1, .int a1), (2, .int a2), (3, .int a3)] := hl
  unfold M_X10_question at h
  refine lv_aload_n hx hb dX10_question_0 rfl (lv_at hl 0 rfl) ?_
  refine lv_iload_n hx hb dX10_question_1 rfl (lv_at hl 1 rfl) ?_
  refine lv_iload_n hx hb dX10_question_2 rfl (lv_at hl 2 rfl) ?_
  refine lv_iload_n hx hb dX10_question_3 rfl (lv_at hl 3 rfl) ?_
  obtain ⟨r2, σ1, hcr2, h⟩ := g_bd h
  refine g_callV (As := [.int a1, .int a2, .int a3]) (n := 3) hx hb hml hown ht (c_X10_canAsk l G _ _ _ _ hcr2) m_910 m_912 m_19 m_41 m_913 (by decide +kernel) (by decide) gE_101 rfl hE hP hS (fun _ h => h) (fun _ _ h => h) rfl hl.1 rfl (Nat.le_of_ble_eq_true rfl) dX10_question_4 ⟨by decide, by decide⟩ ⟨Nat.zero_le _, Nat.zero_le _⟩ (fun H locs hP hS => ?_)
  refine lv_if_ne (tgt := 17) hx hb dX10_question_7 (by decide) (fun c3 => ?_) (fun c3 => ?_)
  · have h := g_iff c3 h
    refine lv_aload_n hx hb dX10_question_17 rfl (lv_at hl 0 rfl) ?_
    refine lv_iload_n hx hb dX10_question_18 rfl (lv_at hl 1 rfl) ?_
    refine lv_iload_n hx hb dX10_question_19 rfl (lv_at hl 2 rfl) ?_
    refine lv_iload_n hx hb dX10_question_20 rfl (lv_at hl 3 rfl) ?_
    obtain ⟨r5, σ4, hcr5, h⟩ := g_bd h
    refine g_callV (As := [.int a1, .int a2, .int a3]) (n := 3) hx hb hml hown ht (c_X10_findOutcomes l G _ _ _ _ hcr5) m_946 m_948 m_25 m_41 m_949 (by decide +kernel) (by decide) gE_101 rfl hE hP hS (fun _ h => h) (fun _ _ h => h) rfl hl.1 rfl (Nat.le_of_ble_eq_true rfl) dX10_question_21 ⟨by decide, by decide⟩ ⟨Nat.zero_le _, Nat.zero_le _⟩ (fun H locs hP hS => ?_)
    refine lv_istore (lv' := [(4, .int r5), (0, .ref (G.2.2.1 101)), (1, .int a1), (2, .int a2), (3, .int a3)]) hx hb dX10_question_24 hl (by decide) rfl (fun ls hl => ?_)
    refine lv_iconst (v := (-1)) hx hb dX10_question_26 (by decide) ?_
    refine lv_istore (lv' := [(5, .int (-1)), (4, .int r5), (0, .ref (G.2.2.1 101)), (1, .int a1), (2, .int a2), (3, .int a3)]) hx hb dX10_question_27 hl (by decide) rfl (fun ls hl => ?_)
    refine lv_bipush (v := 100) hx hb dX10_question_29 (by decide) ?_
    refine lv_istore (lv' := [(6, .int 100), (5, .int (-1)), (4, .int r5), (0, .ref (G.2.2.1 101)), (1, .int a1), (2, .int a2), (3, .int a3)]) hx hb dX10_question_31 hl (by decide) rfl (fun ls hl => ?_)
    refine lv_iconst (v := 0) hx hb dX10_question_33 (by decide) ?_
    refine lv_istore (lv' := [(7, .int 0), (6, .int 100), (5, .int (-1)), (4, .int r5), (0, .ref (G.2.2.1 101)), (1, .int a1), (2, .int a2), (3, .int a3)]) hx hb dX10_question_34 hl (by decide) rfl (fun ls hl => ?_)
    have LPL6 : ∀ (kL6 : Int32 → Int32 → Int32 → gSt → gO), (∀ (l6_7 l6_6 l6_5 : Int32) (σL6 : gSt) (H : Heap) (locs : List Loc) (ls : Array Slot), kL6 l6_7 l6_6 l6_5 σL6 = some (r, σ') → gW G σL6 H → va_S (gA G) s.heap H locs → lv_has ls 11 [(7, .int l6_7), (6, .int l6_6), (5, .int l6_5), (4, .int r5), (0, .ref (G.2.2.1 101)), (1, .int a1), (2, .int a2), (3, .int a3)] → W p l e (gRm 5 130) s m ([.ref (G.2.2.1 101), .int a1, .int a2, .int a3].toArray) below meth c H locs 0 0 (MQ below (gQ G r σ') ([.ref (G.2.2.1 101), .int a1, .int a2, .int a3].toArray) s 0 0 (gA G)) (F0 m 161 ls [])) → ∀ (nL6 : Nat) (l6_7 l6_6 l6_5 : Int32) (σL6 : gSt) (H : Heap) (locs : List Loc) (ls : Array Slot), L6_X10_question r5 a1 a2 a3 nL6 l6_7 l6_6 l6_5 σL6 kL6 = some (r, σ') → gW G σL6 H → va_S (gA G) s.heap H locs → lv_has ls 11 [(7, .int l6_7), (6, .int l6_6), (5, .int l6_5), (4, .int r5), (0, .ref (G.2.2.1 101)), (1, .int a1), (2, .int a2), (3, .int a3)] → W p l e (gRm 5 130) s m ([.ref (G.2.2.1 101), .int a1, .int a2, .int a3].toArray) below meth c H locs 0 0 (MQ below (gQ G r σ') ([.ref (G.2.2.1 101), .int a1, .int a2, .int a3].toArray) s 0 0 (gA G)) (F0 m 36 ls []) := by
      intro kL6 hKL6 nL6
      induction nL6 with
      | zero =>
        intro l6_7 l6_6 l6_5 σL6 H locs ls h
        cases h
      | succ nL6 ihL6 =>
        intro l6_7 l6_6 l6_5 σL6 H locs ls h hP hS hl
        rw [L6_X10_question] at h
        refine lv_iload hx hb dX10_question_36 (lv_at hl 0 rfl) ?_
        refine lv_iload hx hb dX10_question_38 (lv_at hl 3 rfl) ?_
        refine lv_icmp_ge (tgt := 161) hx hb dX10_question_40 (by decide) (fun c7 => ?_) (fun c7 => ?_)
        · have h := g_ift c7 h
          exact hKL6 _ _ _ _ _ _ _ h hP hS (lv_sub hl [0, 1, 2, 3, 4, 5, 6, 7] rfl)
        · have h := g_iff c7 h
          refine lv_iconst (v := 0) hx hb dX10_question_43 (by decide) ?_
          refine lv_istore (lv' := [(8, .int 0), (7, .int l6_7), (6, .int l6_6), (5, .int l6_5), (4, .int r5), (0, .ref (G.2.2.1 101)), (1, .int a1), (2, .int a2), (3, .int a3)]) hx hb dX10_question_44 hl (by decide) rfl (fun ls hl => ?_)
          refine lv_iconst (v := 0) hx hb dX10_question_46 (by decide) ?_
          refine lv_istore (lv' := [(9, .int 0), (8, .int 0), (7, .int l6_7), (6, .int l6_6), (5, .int l6_5), (4, .int r5), (0, .ref (G.2.2.1 101)), (1, .int a1), (2, .int a2), (3, .int a3)]) hx hb dX10_question_47 hl (by decide) rfl (fun ls hl => ?_)
          refine lv_iconst (v := 0) hx hb dX10_question_49 (by decide) ?_
          refine lv_istore (lv' := [(10, .int 0), (9, .int 0), (8, .int 0), (7, .int l6_7), (6, .int l6_6), (5, .int l6_5), (4, .int r5), (0, .ref (G.2.2.1 101)), (1, .int a1), (2, .int a2), (3, .int a3)]) hx hb dX10_question_50 hl (by decide) rfl (fun ls hl => ?_)
          have LPL8 : ∀ (kL8 : Int32 → Int32 → Int32 → gSt → gO), (∀ (l8_10 l8_9 l8_8 : Int32) (σL8 : gSt) (H : Heap) (locs : List Loc) (ls : Array Slot), kL8 l8_10 l8_9 l8_8 σL8 = some (r, σ') → gW G σL8 H → va_S (gA G) s.heap H locs → lv_has ls 11 [(10, .int l8_10), (9, .int l8_9), (8, .int l8_8), (7, .int l6_7), (6, .int l6_6), (5, .int l6_5), (4, .int r5), (0, .ref (G.2.2.1 101)), (1, .int a1), (2, .int a2), (3, .int a3)] → W p l e (gRm 5 130) s m ([.ref (G.2.2.1 101), .int a1, .int a2, .int a3].toArray) below meth c H locs 0 0 (MQ below (gQ G r σ') ([.ref (G.2.2.1 101), .int a1, .int a2, .int a3].toArray) s 0 0 (gA G)) (F0 m 120 ls [])) → ∀ (nL8 : Nat) (l8_10 l8_9 l8_8 : Int32) (σL8 : gSt) (H : Heap) (locs : List Loc) (ls : Array Slot), L8_X10_question l6_7 l6_6 l6_5 r5 a1 a2 a3 nL8 l8_10 l8_9 l8_8 σL8 kL8 = some (r, σ') → gW G σL8 H → va_S (gA G) s.heap H locs → lv_has ls 11 [(10, .int l8_10), (9, .int l8_9), (8, .int l8_8), (7, .int l6_7), (6, .int l6_6), (5, .int l6_5), (4, .int r5), (0, .ref (G.2.2.1 101)), (1, .int a1), (2, .int a2), (3, .int a3)] → W p l e (gRm 5 130) s m ([.ref (G.2.2.1 101), .int a1, .int a2, .int a3].toArray) below meth c H locs 0 0 (MQ below (gQ G r σ') ([.ref (G.2.2.1 101), .int a1, .int a2, .int a3].toArray) s 0 0 (gA G)) (F0 m 52 ls []) := by
            intro kL8 hKL8 nL8
            induction nL8 with
            | zero =>
              intro l8_10 l8_9 l8_8 σL8 H locs ls h
              cases h
            | succ nL8 ihL8 =>
              intro l8_10 l8_9 l8_8 σL8 H locs ls h hP hS hl
              rw [L8_X10_question] at h
              refine lv_iload hx hb dX10_question_52 (lv_at hl 0 rfl) ?_
              refine lv_iconst (v := 1) hx hb dX10_question_54 (by decide) ?_
              refine lv_iload hx hb dX10_question_55 (lv_at hl 6 rfl) ?_
              refine lv_ishl hx hb dX10_question_57 ?_
              refine lv_icmp_ge (tgt := 120) hx hb dX10_question_58 (by decide) (fun c9 => ?_) (fun c9 => ?_)
              · have h := g_ift c9 h
                exact hKL8 _ _ _ _ _ _ _ h hP hS (lv_sub hl [0, 1, 2, 3, 4, 5, 6, 7, 8, 9, 10] rfl)
              · have h := g_iff c9 h
                refine lv_iload hx hb dX10_question_61 (lv_at hl 2 rfl) ?_
                refine lv_iload hx hb dX10_question_63 (lv_at hl 0 rfl) ?_
                refine lv_iload hx hb dX10_question_65 (lv_at hl 3 rfl) ?_
                refine lv_ishr hx hb dX10_question_67 ?_
                refine lv_iconst (v := 1) hx hb dX10_question_68 (by decide) ?_
                refine lv_iand hx hb dX10_question_69 ?_
                refine lv_if_ne (tgt := 83) hx hb dX10_question_70 (by decide) (fun c10 => ?_) (fun c10 => ?_)
                · have h := g_iff c10 h
                  refine lv_iconst (v := 0) hx hb dX10_question_83 (by decide) ?_
                  refine lv_ior hx hb dX10_question_84 ?_
                  refine lv_topi (fun x11 ex11 => ?_)
                  have h := g_nm ex11 h
                  refine lv_istore (lv' := [(8, .int x11), (10, .int l8_10), (9, .int l8_9), (7, .int l6_7), (6, .int l6_6), (5, .int l6_5), (4, .int r5), (0, .ref (G.2.2.1 101)), (1, .int a1), (2, .int a2), (3, .int a3)]) hx hb dX10_question_85 hl (by decide) rfl (fun ls hl => ?_)
                  refine lv_iload hx hb dX10_question_87 (lv_at hl 2 rfl) ?_
                  refine lv_iload hx hb dX10_question_89 (lv_at hl 1 rfl) ?_
                  refine lv_iload hx hb dX10_question_91 (lv_at hl 3 rfl) ?_
                  refine lv_ishr hx hb dX10_question_93 ?_
                  refine lv_iconst (v := 1) hx hb dX10_question_94 (by decide) ?_
                  refine lv_iand hx hb dX10_question_95 ?_
                  refine lv_iconst (v := 1) hx hb dX10_question_96 (by decide) ?_
                  refine lv_icmp_ne (tgt := 110) hx hb dX10_question_97 (by decide) (fun c12 => ?_) (fun c12 => ?_)
                  · have h := g_iff c12 h
                    refine lv_iconst (v := 0) hx hb dX10_question_110 (by decide) ?_
                    refine lv_ior hx hb dX10_question_111 ?_
                    refine lv_topi (fun x13 ex13 => ?_)
                    have h := g_nm ex13 h
                    refine lv_istore (lv' := [(9, .int x13), (8, .int x11), (10, .int l8_10), (7, .int l6_7), (6, .int l6_6), (5, .int l6_5), (4, .int r5), (0, .ref (G.2.2.1 101)), (1, .int a1), (2, .int a2), (3, .int a3)]) hx hb dX10_question_112 hl (by decide) rfl (fun ls hl => ?_)
                    obtain ⟨x14, ex14⟩ : ∃ y : Int32, y = l8_10 + 1 := ⟨_, rfl⟩
                    have h := g_nm ex14 h
                    refine lv_iinc (v := x14) (lv' := [(10, .int x14), (9, .int x13), (8, .int x11), (7, .int l6_7), (6, .int l6_6), (5, .int l6_5), (4, .int r5), (0, .ref (G.2.2.1 101)), (1, .int a1), (2, .int a2), (3, .int a3)]) hx hb dX10_question_114 hl (k := 2) rfl (by rw [ex14]; rfl) (by decide) rfl (fun ls hl => ?_)
                    refine lv_goto (tgt := 52) hx hb dX10_question_117 (by decide) ?_
                    exact ihL8 _ _ _ _ _ _ _ h hP hS (lv_sub hl [0, 1, 2, 3, 4, 5, 6, 7, 8, 9, 10] rfl)
                  · have h := g_ift c12 h
                    refine lv_aload_n hx hb dX10_question_100 rfl (lv_at hl 7 rfl) ?_
                    refine g_get hx hb ht hown hE hP (by decide) gE_101 uX10 rfl 11 (by decide) m_801 rfl rfl dX10_question_101 ?_
                    refine lv_iload hx hb dX10_question_104 (lv_at hl 1 rfl) ?_
                    obtain ⟨i15, h⟩ := g_ix h
                    refine g_iald hx hb hE hP (by decide) rfl (by decide) i15 dX10_question_106 ?_
                    refine lv_goto (tgt := 111) hx hb dX10_question_107 (by decide) ?_
                    refine lv_ior hx hb dX10_question_111 ?_
                    refine lv_topi (fun x16 ex16 => ?_)
                    have h := g_nm ex16 h
                    refine lv_istore (lv' := [(9, .int x16), (8, .int x11), (10, .int l8_10), (7, .int l6_7), (6, .int l6_6), (5, .int l6_5), (4, .int r5), (0, .ref (G.2.2.1 101)), (1, .int a1), (2, .int a2), (3, .int a3)]) hx hb dX10_question_112 hl (by decide) rfl (fun ls hl => ?_)
                    obtain ⟨x17, ex17⟩ : ∃ y : Int32, y = l8_10 + 1 := ⟨_, rfl⟩
                    have h := g_nm ex17 h
                    refine lv_iinc (v := x17) (lv' := [(10, .int x17), (9, .int x16), (8, .int x11), (7, .int l6_7), (6, .int l6_6), (5, .int l6_5), (4, .int r5), (0, .ref (G.2.2.1 101)), (1, .int a1), (2, .int a2), (3, .int a3)]) hx hb dX10_question_114 hl (k := 2) rfl (by rw [ex17]; rfl) (by decide) rfl (fun ls hl => ?_)
                    refine lv_goto (tgt := 52) hx hb dX10_question_117 (by decide) ?_
                    exact ihL8 _ _ _ _ _ _ _ h hP hS (lv_sub hl [0, 1, 2, 3, 4, 5, 6, 7, 8, 9, 10] rfl)
                · have h := g_ift c10 h
                  refine lv_aload_n hx hb dX10_question_73 rfl (lv_at hl 7 rfl) ?_
                  refine g_get hx hb ht hown hE hP (by decide) gE_101 uX10 rfl 11 (by decide) m_801 rfl rfl dX10_question_74 ?_
                  refine lv_iload hx hb dX10_question_77 (lv_at hl 0 rfl) ?_
                  obtain ⟨i18, h⟩ := g_ix h
                  refine g_iald hx hb hE hP (by decide) rfl (by decide) i18 dX10_question_79 ?_
                  refine lv_goto (tgt := 84) hx hb dX10_question_80 (by decide) ?_
                  refine lv_ior hx hb dX10_question_84 ?_
                  refine lv_topi (fun x19 ex19 => ?_)
                  have h := g_nm ex19 h
                  refine lv_istore (lv' := [(8, .int x19), (10, .int l8_10), (9, .int l8_9), (7, .int l6_7), (6, .int l6_6), (5, .int l6_5), (4, .int r5), (0, .ref (G.2.2.1 101)), (1, .int a1), (2, .int a2), (3, .int a3)]) hx hb dX10_question_85 hl (by decide) rfl (fun ls hl => ?_)
                  refine lv_iload hx hb dX10_question_87 (lv_at hl 2 rfl) ?_
                  refine lv_iload hx hb dX10_question_89 (lv_at hl 1 rfl) ?_
                  refine lv_iload hx hb dX10_question_91 (lv_at hl 3 rfl) ?_
                  refine lv_ishr hx hb dX10_question_93 ?_
                  refine lv_iconst (v := 1) hx hb dX10_question_94 (by decide) ?_
                  refine lv_iand hx hb dX10_question_95 ?_
                  refine lv_iconst (v := 1) hx hb dX10_question_96 (by decide) ?_
                  refine lv_icmp_ne (tgt := 110) hx hb dX10_question_97 (by decide) (fun c20 => ?_) (fun c20 => ?_)
                  · have h := g_iff c20 h
                    refine lv_iconst (v := 0) hx hb dX10_question_110 (by decide) ?_
                    refine lv_ior hx hb dX10_question_111 ?_
                    refine lv_topi (fun x21 ex21 => ?_)
                    have h := g_nm ex21 h
                    refine lv_istore (lv' := [(9, .int x21), (8, .int x19), (10, .int l8_10), (7, .int l6_7), (6, .int l6_6), (5, .int l6_5), (4, .int r5), (0, .ref (G.2.2.1 101)), (1, .int a1), (2, .int a2), (3, .int a3)]) hx hb dX10_question_112 hl (by decide) rfl (fun ls hl => ?_)
                    obtain ⟨x22, ex22⟩ : ∃ y : Int32, y = l8_10 + 1 := ⟨_, rfl⟩
                    have h := g_nm ex22 h
                    refine lv_iinc (v := x22) (lv' := [(10, .int x22), (9, .int x21), (8, .int x19), (7, .int l6_7), (6, .int l6_6), (5, .int l6_5), (4, .int r5), (0, .ref (G.2.2.1 101)), (1, .int a1), (2, .int a2), (3, .int a3)]) hx hb dX10_question_114 hl (k := 2) rfl (by rw [ex22]; rfl) (by decide) rfl (fun ls hl => ?_)
                    refine lv_goto (tgt := 52) hx hb dX10_question_117 (by decide) ?_
                    exact ihL8 _ _ _ _ _ _ _ h hP hS (lv_sub hl [0, 1, 2, 3, 4, 5, 6, 7, 8, 9, 10] rfl)
                  · have h := g_ift c20 h
                    refine lv_aload_n hx hb dX10_question_100 rfl (lv_at hl 7 rfl) ?_
                    refine g_get hx hb ht hown hE hP (by decide) gE_101 uX10 rfl 11 (by decide) m_801 rfl rfl dX10_question_101 ?_
                    refine lv_iload hx hb dX10_question_104 (lv_at hl 1 rfl) ?_
                    obtain ⟨i23, h⟩ := g_ix h
                    refine g_iald hx hb hE hP (by decide) rfl (by decide) i23 dX10_question_106 ?_
                    refine lv_goto (tgt := 111) hx hb dX10_question_107 (by decide) ?_
                    refine lv_ior hx hb dX10_question_111 ?_
                    refine lv_topi (fun x24 ex24 => ?_)
                    have h := g_nm ex24 h
                    refine lv_istore (lv' := [(9, .int x24), (8, .int x19), (10, .int l8_10), (7, .int l6_7), (6, .int l6_6), (5, .int l6_5), (4, .int r5), (0, .ref (G.2.2.1 101)), (1, .int a1), (2, .int a2), (3, .int a3)]) hx hb dX10_question_112 hl (by decide) rfl (fun ls hl => ?_)
                    obtain ⟨x25, ex25⟩ : ∃ y : Int32, y = l8_10 + 1 := ⟨_, rfl⟩
                    have h := g_nm ex25 h
                    refine lv_iinc (v := x25) (lv' := [(10, .int x25), (9, .int x24), (8, .int x19), (7, .int l6_7), (6, .int l6_6), (5, .int l6_5), (4, .int r5), (0, .ref (G.2.2.1 101)), (1, .int a1), (2, .int a2), (3, .int a3)]) hx hb dX10_question_114 hl (k := 2) rfl (by rw [ex25]; rfl) (by decide) rfl (fun ls hl => ?_)
                    refine lv_goto (tgt := 52) hx hb dX10_question_117 (by decide) ?_
                    exact ihL8 _ _ _ _ _ _ _ h hP hS (lv_sub hl [0, 1, 2, 3, 4, 5, 6, 7, 8, 9, 10] rfl)
          refine LPL8 _ (fun z26 z27 z28 σ29 H locs ls h hP hS hl => ?_) gFu _ _ _ _ _ _ _ h hP hS (lv_sub hl [0, 1, 2, 3, 4, 5, 6, 7, 8, 9, 10] rfl)
          refine lv_iload hx hb dX10_question_120 (lv_at hl 2 rfl) ?_
          obtain ⟨r31, σ30, hcr31, h⟩ := g_bd h
          refine g_callS (As := [.int z28]) (n := 1) hx hb hml hown ht (c_X10_many l G _ _ hcr31) m_954 m_955 m_41 m_956 (by decide +kernel) hE hP hS (fun _ h => h) (fun _ _ h => h) rfl hl.1 rfl (Nat.le_of_ble_eq_true rfl) dX10_question_122 ⟨by decide, by decide⟩ ⟨Nat.zero_le _, Nat.zero_le _⟩ (fun H locs hP hS => ?_)
          refine lv_iload hx hb dX10_question_125 (lv_at hl 1 rfl) ?_
          obtain ⟨r33, σ32, hcr33, h⟩ := g_bd h
          refine g_callS (As := [.int z27]) (n := 1) hx hb hml hown ht (c_X10_many l G _ _ hcr33) m_954 m_955 m_41 m_956 (by decide +kernel) hE hP hS (fun _ h => h) (fun _ _ h => h) rfl hl.1 rfl (Nat.le_of_ble_eq_true rfl) dX10_question_127 ⟨by decide, by decide⟩ ⟨Nat.zero_le _, Nat.zero_le _⟩ (fun H locs hP hS => ?_)
          refine g_max hx hb (hml.trans hl.1.symm) hown ht m_957 m_591 m_43 m_592 (Nat.le_of_ble_eq_true rfl) (Nat.le_of_ble_eq_true rfl) ⟨Nat.zero_le _, Nat.zero_le _⟩ dX10_question_130 ?_
          refine lv_topi (fun x34 ex34 => ?_)
          have h := g_nm ex34 h
          refine lv_istore (lv' := [(10, .int x34), (9, .int z27), (8, .int z28), (7, .int l6_7), (6, .int l6_6), (5, .int l6_5), (4, .int r5), (0, .ref (G.2.2.1 101)), (1, .int a1), (2, .int a2), (3, .int a3)]) hx hb dX10_question_133 hl (by decide) rfl (fun ls hl => ?_)
          refine lv_iload hx hb dX10_question_135 (lv_at hl 0 rfl) ?_
          refine lv_iload hx hb dX10_question_137 (lv_at hl 4 rfl) ?_
          refine lv_icmp_ge (tgt := 155) hx hb dX10_question_139 (by decide) (fun c35 => ?_) (fun c35 => ?_)
          · have h := g_ift c35 h
            obtain ⟨x36, ex36⟩ : ∃ y : Int32, y = l6_7 + 1 := ⟨_, rfl⟩
            have h := g_nm ex36 h
            refine lv_iinc (v := x36) (lv' := [(7, .int x36), (10, .int x34), (9, .int z27), (8, .int z28), (6, .int l6_6), (5, .int l6_5), (4, .int r5), (0, .ref (G.2.2.1 101)), (1, .int a1), (2, .int a2), (3, .int a3)]) hx hb dX10_question_155 hl (k := 3) rfl (by rw [ex36]; rfl) (by decide) rfl (fun ls hl => ?_)
            refine lv_goto (tgt := 36) hx hb dX10_question_158 (by decide) ?_
            exact ihL6 _ _ _ _ _ _ _ h hP hS (lv_sub hl [0, 4, 5, 6, 7, 8, 9, 10] rfl)
          · have h := g_iff c35 h
            refine lv_iload hx hb dX10_question_142 (lv_at hl 0 rfl) ?_
            refine lv_istore (lv' := [(6, .int x34), (10, .int x34), (9, .int z27), (8, .int z28), (7, .int l6_7), (5, .int l6_5), (4, .int r5), (0, .ref (G.2.2.1 101)), (1, .int a1), (2, .int a2), (3, .int a3)]) hx hb dX10_question_144 hl (by decide) rfl (fun ls hl => ?_)
            refine lv_aload_n hx hb dX10_question_146 rfl (lv_at hl 7 rfl) ?_
            refine g_get hx hb ht hown hE hP (by decide) gE_101 uX10 rfl 10 (by decide) m_800 rfl rfl dX10_question_147 ?_
            refine lv_iload hx hb dX10_question_150 (lv_at hl 4 rfl) ?_
            obtain ⟨i37, h⟩ := g_ix h
            refine g_iald hx hb hE hP (by decide) rfl (by decide) i37 dX10_question_152 ?_
            refine lv_topi (fun x38 ex38 => ?_)
            have h := g_nm ex38 h
            refine lv_istore (lv' := [(5, .int x38), (6, .int x34), (10, .int x34), (9, .int z27), (8, .int z28), (7, .int l6_7), (4, .int r5), (0, .ref (G.2.2.1 101)), (1, .int a1), (2, .int a2), (3, .int a3)]) hx hb dX10_question_153 hl (by decide) rfl (fun ls hl => ?_)
            obtain ⟨x39, ex39⟩ : ∃ y : Int32, y = l6_7 + 1 := ⟨_, rfl⟩
            have h := g_nm ex39 h
            refine lv_iinc (v := x39) (lv' := [(7, .int x39), (5, .int x38), (6, .int x34), (10, .int x34), (9, .int z27), (8, .int z28), (4, .int r5), (0, .ref (G.2.2.1 101)), (1, .int a1), (2, .int a2), (3, .int a3)]) hx hb dX10_question_155 hl (k := 5) rfl (by rw [ex39]; rfl) (by decide) rfl (fun ls hl => ?_)
            refine lv_goto (tgt := 36) hx hb dX10_question_158 (by decide) ?_
            exact ihL6 _ _ _ _ _ _ _ h hP hS (lv_sub hl [0, 2, 1, 6, 7, 8, 9, 10] rfl)
    refine LPL6 _ (fun z40 z41 z42 σ43 H locs ls h hP hS hl => ?_) gFu _ _ _ _ _ _ _ h hP hS (lv_sub hl [0, 1, 2, 3, 4, 5, 6, 7] rfl)
    refine lv_iload hx hb dX10_question_161 (lv_at hl 2 rfl) ?_
    refine lv_if_ge (tgt := 175) hx hb dX10_question_163 (by decide) (fun c44 => ?_) (fun c44 => ?_)
    · have h := g_ift c44 h
      refine lv_iload hx hb dX10_question_175 (lv_at hl 2 rfl) ?_
      exact g_iret hx hb hr hlk hE hP hS h dX10_question_177
    · have h := g_iff c44 h
      refine lv_aload_n hx hb dX10_question_166 rfl (lv_at hl 4 rfl) ?_
      refine lv_ldc hx hb hown (ht _ m_897) dX10_question_167 ?_
      obtain ⟨r46, σ45, hcr46, h⟩ := g_bd h
      refine g_callV (As := [.int (-100006)]) (n := 1) hx hb hml hown ht (c_X10_finding l G _ _ hcr46) m_838 m_840 m_14 m_41 m_841 (by decide +kernel) (by decide) gE_101 rfl hE hP hS (fun _ h => h) (fun _ _ h => h) rfl hl.1 rfl (Nat.le_of_ble_eq_true rfl) dX10_question_169 ⟨by decide, by decide⟩ ⟨Nat.zero_le _, Nat.zero_le _⟩ (fun H locs hP hS => ?_)
      refine lv_goto (tgt := 177) hx hb dX10_question_172 (by decide) ?_
      exact g_iret hx hb hr hlk hE hP hS h dX10_question_177
  · have h := g_ift c3 h
    refine lv_aload_n hx hb dX10_question_10 rfl (lv_at hl 0 rfl) ?_
    refine lv_ldc hx hb hown (ht _ m_837) dX10_question_11 ?_
    obtain ⟨r48, σ47, hcr48, h⟩ := g_bd h
    refine g_callV (As := [.int (-100001)]) (n := 1) hx hb hml hown ht (c_X10_finding l G _ _ hcr48) m_838 m_840 m_14 m_41 m_841 (by decide +kernel) (by decide) gE_101 rfl hE hP hS (fun _ h => h) (fun _ _ h => h) rfl hl.1 rfl (Nat.le_of_ble_eq_true rfl) dX10_question_13 ⟨by decide, by decide⟩ ⟨Nat.zero_le _, Nat.zero_le _⟩ (fun H locs hP hS => ?_)
    exact g_iret hx hb hr hlk hE hP hS h dX10_question_16

def M_X10_order (a1 a2 a3 a4 : Int32) (σ : gSt) : gO :=
  gBd (M_X10_isPerson a1 σ) (fun r2 σ1 => if r2 = 0 then (gBd (M_X10_finding (-100001) σ1) (fun r5 σ4 => some (r5, σ4))) else (gBd (M_X10_isParish a2 σ1) (fun r7 σ6 => if r7 = 0 then (gBd (M_X10_finding (-100001) σ6) (fun r10 σ9 => some (r10, σ9))) else (gBd (M_X10_isParish a3 σ6) (fun r12 σ11 => if r12 = 0 then (gBd (M_X10_finding (-100001) σ11) (fun r15 σ14 => some (r15, σ14))) else (gBd (M_X10_isDay a4 σ11) (fun r17 σ16 => if r17 = 0 then (gBd (M_X10_finding (-100001) σ16) (fun r44 σ43 => some (r44, σ43))) else (if a2 = a3 then (gBd (M_X10_finding (-100003) σ16) (fun r42 σ41 => some (r42, σ41))) else (gIx 549 4 (gNm ((σ16 102 (4 : Int32).toNatClampNeg) : Int32) (fun x21 => if x21 = 20 then (gBd (M_X10_finding (-100005) σ16) (fun r40 σ39 => some (r40, σ39))) else (gIx 549 ((369 : Int32) + x21) (gNm (gUp σ16 102 ((369 : Int32) + x21).toNatClampNeg a1) (fun σ24 => gIx 549 ((389 : Int32) + x21) (gNm (gUp σ24 102 ((389 : Int32) + x21).toNatClampNeg a2) (fun σ26 => gIx 549 ((409 : Int32) + x21) (gNm (gUp σ26 102 ((409 : Int32) + x21).toNatClampNeg a3) (fun σ28 => gIx 549 ((429 : Int32) + x21) (gNm (gUp σ28 102 ((429 : Int32) + x21).toNatClampNeg a4) (fun σ30 => gIx 549 (((13 : Int32) + ((6 : Int32) * a2)) + a3) (gIx 549 ((449 : Int32) + x21) (gNm (gUp σ30 102 ((449 : Int32) + x21).toNatClampNeg ((4 : Int32) * (σ30 102 (((13 : Int32) + ((6 : Int32) * a2)) + a3).toNatClampNeg))) (fun σ33 => gIx 549 ((469 : Int32) + x21) (gNm (gUp σ33 102 ((469 : Int32) + x21).toNatClampNeg 0) (fun σ35 => gIx 549 4 (gIx 549 4 (gNm (gUp σ35 102 (4 : Int32).toNatClampNeg ((σ35 102 (4 : Int32).toNatClampNeg) + 1)) (fun σ38 => some (x21, σ38)))))))))))))))))))))))))))))
set_option maxHeartbeats 4000000 in
set_option maxRecDepth 100000 in
theorem c_X10_order (l : Launch) (G : gPar) (a1 a2 a3 a4 : Int32) (σ : gSt) {r : Int32} {σ' : gSt} (h : M_X10_order a1 a2 a3 a4 σ = some (r, σ')) : gC l G yX10_order cX10_order 6 (some .int) 2 43 [.ref (G.2.2.1 101), .int a1, .int a2, .int a3, .int a4] σ r σ' := by
  refine gC_of (by decide) (Nat.le_of_ble_eq_true rfl) ?_
  intro p e s m below meth c hx hb hr ht hown hlk hml hE hP ls hl
  have hS : va_S (gA G) s.heap s.heap [] := va_S.rf
  have hl : lv_has ls 6 [(0, .ref (G.2.2.1 101)), (1, .int a1), (2, .int a2), (3, .int a3), (4, .int a4)] := hl
  unfold M_X10_order at h
  refine lv_aload_n hx hb dX10_order_0 rfl (lv_at hl 0 rfl) ?_
  refine lv_iload_n hx hb dX10_order_1 rfl (lv_at hl 1 rfl) ?_
  obtain ⟨r2, σ1, hcr2, h⟩ := g_bd h
  refine g_callV (As := [.int a1]) (n := 1) hx hb hml hown ht (c_X10_isPerson l G _ _ hcr2) m_863 m_865 m_16 m_41 m_866 (by decide +kernel) (by decide) gE_101 rfl hE hP hS (fun _ h => h) (fun _ _ h => h) rfl hl.1 rfl (Nat.le_of_ble_eq_true rfl) dX10_order_2 ⟨by decide, by decide⟩ ⟨Nat.zero_le _, Nat.zero_le _⟩ (fun H locs hP hS => ?_)
  refine lv_if_eq (tgt := 32) hx hb dX10_order_5 (by decide) (fun c3 => ?_) (fun c3 => ?_)
  · have h := g_ift c3 h
    refine lv_aload_n hx hb dX10_order_32 rfl (lv_at hl 0 rfl) ?_
    refine lv_ldc hx hb hown (ht _ m_837) dX10_order_33 ?_
    obtain ⟨r5, σ4, hcr5, h⟩ := g_bd h
    refine g_callV (As := [.int (-100001)]) (n := 1) hx hb hml hown ht (c_X10_finding l G _ _ hcr5) m_838 m_840 m_14 m_41 m_841 (by decide +kernel) (by decide) gE_101 rfl hE hP hS (fun _ h => h) (fun _ _ h => h) rfl hl.1 rfl (Nat.le_of_ble_eq_true rfl) dX10_order_35 ⟨by decide, by decide⟩ ⟨Nat.zero_le _, Nat.zero_le _⟩ (fun H locs hP hS => ?_)
    exact g_iret hx hb hr hlk hE hP hS h dX10_order_38
  · have h := g_iff c3 h
    refine lv_aload_n hx hb dX10_order_8 rfl (lv_at hl 0 rfl) ?_
    refine lv_iload_n hx hb dX10_order_9 rfl (lv_at hl 2 rfl) ?_
    obtain ⟨r7, σ6, hcr7, h⟩ := g_bd h
    refine g_callV (As := [.int a2]) (n := 1) hx hb hml hown ht (c_X10_isParish l G _ _ hcr7) m_847 m_849 m_15 m_41 m_850 (by decide +kernel) (by decide) gE_101 rfl hE hP hS (fun _ h => h) (fun _ _ h => h) rfl hl.1 rfl (Nat.le_of_ble_eq_true rfl) dX10_order_10 ⟨by decide, by decide⟩ ⟨Nat.zero_le _, Nat.zero_le _⟩ (fun H locs hP hS => ?_)
    refine lv_if_eq (tgt := 32) hx hb dX10_order_13 (by decide) (fun c8 => ?_) (fun c8 => ?_)
    · have h := g_ift c8 h
      refine lv_aload_n hx hb dX10_order_32 rfl (lv_at hl 0 rfl) ?_
      refine lv_ldc hx hb hown (ht _ m_837) dX10_order_33 ?_
      obtain ⟨r10, σ9, hcr10, h⟩ := g_bd h
      refine g_callV (As := [.int (-100001)]) (n := 1) hx hb hml hown ht (c_X10_finding l G _ _ hcr10) m_838 m_840 m_14 m_41 m_841 (by decide +kernel) (by decide) gE_101 rfl hE hP hS (fun _ h => h) (fun _ _ h => h) rfl hl.1 rfl (Nat.le_of_ble_eq_true rfl) dX10_order_35 ⟨by decide, by decide⟩ ⟨Nat.zero_le _, Nat.zero_le _⟩ (fun H locs hP hS => ?_)
      exact g_iret hx hb hr hlk hE hP hS h dX10_order_38
    · have h := g_iff c8 h
      refine lv_aload_n hx hb dX10_order_16 rfl (lv_at hl 0 rfl) ?_
      refine lv_iload_n hx hb dX10_order_17 rfl (lv_at hl 3 rfl) ?_
      obtain ⟨r12, σ11, hcr12, h⟩ := g_bd h
      refine g_callV (As := [.int a3]) (n := 1) hx hb hml hown ht (c_X10_isParish l G _ _ hcr12) m_847 m_849 m_15 m_41 m_850 (by decide +kernel) (by decide) gE_101 rfl hE hP hS (fun _ h => h) (fun _ _ h => h) rfl hl.1 rfl (Nat.le_of_ble_eq_true rfl) dX10_order_18 ⟨by decide, by decide⟩ ⟨Nat.zero_le _, Nat.zero_le _⟩ (fun H locs hP hS => ?_)
      refine lv_if_eq (tgt := 32) hx hb dX10_order_21 (by decide) (fun c13 => ?_) (fun c13 => ?_)
      · have h := g_ift c13 h
        refine lv_aload_n hx hb dX10_order_32 rfl (lv_at hl 0 rfl) ?_
        refine lv_ldc hx hb hown (ht _ m_837) dX10_order_33 ?_
        obtain ⟨r15, σ14, hcr15, h⟩ := g_bd h
        refine g_callV (As := [.int (-100001)]) (n := 1) hx hb hml hown ht (c_X10_finding l G _ _ hcr15) m_838 m_840 m_14 m_41 m_841 (by decide +kernel) (by decide) gE_101 rfl hE hP hS (fun _ h => h) (fun _ _ h => h) rfl hl.1 rfl (Nat.le_of_ble_eq_true rfl) dX10_order_35 ⟨by decide, by decide⟩ ⟨Nat.zero_le _, Nat.zero_le _⟩ (fun H locs hP hS => ?_)
        exact g_iret hx hb hr hlk hE hP hS h dX10_order_38
      · have h := g_iff c13 h
        refine lv_iload hx hb dX10_order_24 (lv_at hl 4 rfl) ?_
        obtain ⟨r17, σ16, hcr17, h⟩ := g_bd h
        refine g_callS (As := [.int a4]) (n := 1) hx hb hml hown ht (c_X10_isDay l G _ _ hcr17) m_856 m_857 m_41 m_858 (by decide +kernel) hE hP hS (fun _ h => h) (fun _ _ h => h) rfl hl.1 rfl (Nat.le_of_ble_eq_true rfl) dX10_order_26 ⟨by decide, by decide⟩ ⟨Nat.zero_le _, Nat.zero_le _⟩ (fun H locs hP hS => ?_)
        refine lv_if_ne (tgt := 39) hx hb dX10_order_29 (by decide) (fun c18 => ?_) (fun c18 => ?_)
        · have h := g_iff c18 h
          refine lv_iload_n hx hb dX10_order_39 rfl (lv_at hl 2 rfl) ?_
          refine lv_iload_n hx hb dX10_order_40 rfl (lv_at hl 3 rfl) ?_
          refine lv_icmp_ne (tgt := 51) hx hb dX10_order_41 (by decide) (fun c19 => ?_) (fun c19 => ?_)
          · have h := g_iff c19 h
            refine lv_aload_n hx hb dX10_order_51 rfl (lv_at hl 0 rfl) ?_
            refine g_get hx hb ht hown hE hP (by decide) gE_101 uX10 rfl 0 (by decide) m_790 rfl rfl dX10_order_52 ?_
            refine lv_iconst (v := 4) hx hb dX10_order_55 (by decide) ?_
            obtain ⟨i20, h⟩ := g_ix h
            refine g_iald hx hb hE hP (by decide) rfl (by decide) i20 dX10_order_56 ?_
            refine lv_topi (fun x21 ex21 => ?_)
            have h := g_nm ex21 h
            refine lv_istore (lv' := [(5, .int x21), (0, .ref (G.2.2.1 101)), (1, .int a1), (2, .int a2), (3, .int a3), (4, .int a4)]) hx hb dX10_order_57 hl (by decide) rfl (fun ls hl => ?_)
            refine lv_iload hx hb dX10_order_59 (lv_at hl 0 rfl) ?_
            refine lv_bipush (v := 20) hx hb dX10_order_61 (by decide) ?_
            refine lv_icmp_ne (tgt := 73) hx hb dX10_order_63 (by decide) (fun c22 => ?_) (fun c22 => ?_)
            · have h := g_iff c22 h
              refine lv_aload_n hx hb dX10_order_73 rfl (lv_at hl 1 rfl) ?_
              refine g_get hx hb ht hown hE hP (by decide) gE_101 uX10 rfl 0 (by decide) m_790 rfl rfl dX10_order_74 ?_
              refine lv_sipush (v := 369) hx hb dX10_order_77 (by decide) ?_
              refine lv_iload hx hb dX10_order_80 (lv_at hl 0 rfl) ?_
              refine lv_iadd hx hb dX10_order_82 ?_
              refine lv_iload_n hx hb dX10_order_83 rfl (lv_at hl 2 rfl) ?_
              obtain ⟨i23, h⟩ := g_ix h
              refine g_iast hx hb hE hP hS (by decide) rfl (by decide) i23 dX10_order_84 (fun H locs σ24 eσ24 hP hS => ?_)
              have h := g_nm eσ24 h
              refine lv_aload_n hx hb dX10_order_85 rfl (lv_at hl 1 rfl) ?_
              refine g_get hx hb ht hown hE hP (by decide) gE_101 uX10 rfl 0 (by decide) m_790 rfl rfl dX10_order_86 ?_
              refine lv_sipush (v := 389) hx hb dX10_order_89 (by decide) ?_
              refine lv_iload hx hb dX10_order_92 (lv_at hl 0 rfl) ?_
              refine lv_iadd hx hb dX10_order_94 ?_
              refine lv_iload_n hx hb dX10_order_95 rfl (lv_at hl 3 rfl) ?_
              obtain ⟨i25, h⟩ := g_ix h
              refine g_iast hx hb hE hP hS (by decide) rfl (by decide) i25 dX10_order_96 (fun H locs σ26 eσ26 hP hS => ?_)
              have h := g_nm eσ26 h
              refine lv_aload_n hx hb dX10_order_97 rfl (lv_at hl 1 rfl) ?_
              refine g_get hx hb ht hown hE hP (by decide) gE_101 uX10 rfl 0 (by decide) m_790 rfl rfl dX10_order_98 ?_
              refine lv_sipush (v := 409) hx hb dX10_order_101 (by decide) ?_
              refine lv_iload hx hb dX10_order_104 (lv_at hl 0 rfl) ?_
              refine lv_iadd hx hb dX10_order_106 ?_
              refine lv_iload_n hx hb dX10_order_107 rfl (lv_at hl 4 rfl) ?_
              obtain ⟨i27, h⟩ := g_ix h
              refine g_iast hx hb hE hP hS (by decide) rfl (by decide) i27 dX10_order_108 (fun H locs σ28 eσ28 hP hS => ?_)
              have h := g_nm eσ28 h
              refine lv_aload_n hx hb dX10_order_109 rfl (lv_at hl 1 rfl) ?_
              refine g_get hx hb ht hown hE hP (by decide) gE_101 uX10 rfl 0 (by decide) m_790 rfl rfl dX10_order_110 ?_
              refine lv_sipush (v := 429) hx hb dX10_order_113 (by decide) ?_
              refine lv_iload hx hb dX10_order_116 (lv_at hl 0 rfl) ?_
              refine lv_iadd hx hb dX10_order_118 ?_
              refine lv_iload hx hb dX10_order_119 (lv_at hl 5 rfl) ?_
              obtain ⟨i29, h⟩ := g_ix h
              refine g_iast hx hb hE hP hS (by decide) rfl (by decide) i29 dX10_order_121 (fun H locs σ30 eσ30 hP hS => ?_)
              have h := g_nm eσ30 h
              refine lv_aload_n hx hb dX10_order_122 rfl (lv_at hl 1 rfl) ?_
              refine g_get hx hb ht hown hE hP (by decide) gE_101 uX10 rfl 0 (by decide) m_790 rfl rfl dX10_order_123 ?_
              refine lv_sipush (v := 449) hx hb dX10_order_126 (by decide) ?_
              refine lv_iload hx hb dX10_order_129 (lv_at hl 0 rfl) ?_
              refine lv_iadd hx hb dX10_order_131 ?_
              refine lv_iconst (v := 4) hx hb dX10_order_132 (by decide) ?_
              refine lv_aload_n hx hb dX10_order_133 rfl (lv_at hl 1 rfl) ?_
              refine g_get hx hb ht hown hE hP (by decide) gE_101 uX10 rfl 0 (by decide) m_790 rfl rfl dX10_order_134 ?_
              refine lv_bipush (v := 13) hx hb dX10_order_137 (by decide) ?_
              refine lv_bipush (v := 6) hx hb dX10_order_139 (by decide) ?_
              refine lv_iload_n hx hb dX10_order_141 rfl (lv_at hl 3 rfl) ?_
              refine lv_imul hx hb dX10_order_142 ?_
              refine lv_iadd hx hb dX10_order_143 ?_
              refine lv_iload_n hx hb dX10_order_144 rfl (lv_at hl 4 rfl) ?_
              refine lv_iadd hx hb dX10_order_145 ?_
              obtain ⟨i31, h⟩ := g_ix h
              refine g_iald hx hb hE hP (by decide) rfl (by decide) i31 dX10_order_146 ?_
              refine lv_imul hx hb dX10_order_147 ?_
              obtain ⟨i32, h⟩ := g_ix h
              refine g_iast hx hb hE hP hS (by decide) rfl (by decide) i32 dX10_order_148 (fun H locs σ33 eσ33 hP hS => ?_)
              have h := g_nm eσ33 h
              refine lv_aload_n hx hb dX10_order_149 rfl (lv_at hl 1 rfl) ?_
              refine g_get hx hb ht hown hE hP (by decide) gE_101 uX10 rfl 0 (by decide) m_790 rfl rfl dX10_order_150 ?_
              refine lv_sipush (v := 469) hx hb dX10_order_153 (by decide) ?_
              refine lv_iload hx hb dX10_order_156 (lv_at hl 0 rfl) ?_
              refine lv_iadd hx hb dX10_order_158 ?_
              refine lv_iconst (v := 0) hx hb dX10_order_159 (by decide) ?_
              obtain ⟨i34, h⟩ := g_ix h
              refine g_iast hx hb hE hP hS (by decide) rfl (by decide) i34 dX10_order_160 (fun H locs σ35 eσ35 hP hS => ?_)
              have h := g_nm eσ35 h
              refine lv_aload_n hx hb dX10_order_161 rfl (lv_at hl 1 rfl) ?_
              refine g_get hx hb ht hown hE hP (by decide) gE_101 uX10 rfl 0 (by decide) m_790 rfl rfl dX10_order_162 ?_
              refine lv_iconst (v := 4) hx hb dX10_order_165 (by decide) ?_
              refine lv_dup2_11 hx hb dX10_order_166 rfl rfl ?_
              obtain ⟨i36, h⟩ := g_ix h
              refine g_iald hx hb hE hP (by decide) rfl (by decide) i36 dX10_order_167 ?_
              refine lv_iconst (v := 1) hx hb dX10_order_168 (by decide) ?_
              refine lv_iadd hx hb dX10_order_169 ?_
              obtain ⟨i37, h⟩ := g_ix h
              refine g_iast hx hb hE hP hS (by decide) rfl (by decide) i37 dX10_order_170 (fun H locs σ38 eσ38 hP hS => ?_)
              have h := g_nm eσ38 h
              refine lv_iload hx hb dX10_order_171 (lv_at hl 0 rfl) ?_
              exact g_iret hx hb hr hlk hE hP hS h dX10_order_173
            · have h := g_ift c22 h
              refine lv_aload_n hx hb dX10_order_66 rfl (lv_at hl 1 rfl) ?_
              refine lv_ldc hx hb hown (ht _ m_842) dX10_order_67 ?_
              obtain ⟨r40, σ39, hcr40, h⟩ := g_bd h
              refine g_callV (As := [.int (-100005)]) (n := 1) hx hb hml hown ht (c_X10_finding l G _ _ hcr40) m_838 m_840 m_14 m_41 m_841 (by decide +kernel) (by decide) gE_101 rfl hE hP hS (fun _ h => h) (fun _ _ h => h) rfl hl.1 rfl (Nat.le_of_ble_eq_true rfl) dX10_order_69 ⟨by decide, by decide⟩ ⟨Nat.zero_le _, Nat.zero_le _⟩ (fun H locs hP hS => ?_)
              exact g_iret hx hb hr hlk hE hP hS h dX10_order_72
          · have h := g_ift c19 h
            refine lv_aload_n hx hb dX10_order_44 rfl (lv_at hl 0 rfl) ?_
            refine lv_ldc hx hb hown (ht _ m_851) dX10_order_45 ?_
            obtain ⟨r42, σ41, hcr42, h⟩ := g_bd h
            refine g_callV (As := [.int (-100003)]) (n := 1) hx hb hml hown ht (c_X10_finding l G _ _ hcr42) m_838 m_840 m_14 m_41 m_841 (by decide +kernel) (by decide) gE_101 rfl hE hP hS (fun _ h => h) (fun _ _ h => h) rfl hl.1 rfl (Nat.le_of_ble_eq_true rfl) dX10_order_47 ⟨by decide, by decide⟩ ⟨Nat.zero_le _, Nat.zero_le _⟩ (fun H locs hP hS => ?_)
            exact g_iret hx hb hr hlk hE hP hS h dX10_order_50
        · have h := g_ift c18 h
          refine lv_aload_n hx hb dX10_order_32 rfl (lv_at hl 0 rfl) ?_
          refine lv_ldc hx hb hown (ht _ m_837) dX10_order_33 ?_
          obtain ⟨r44, σ43, hcr44, h⟩ := g_bd h
          refine g_callV (As := [.int (-100001)]) (n := 1) hx hb hml hown ht (c_X10_finding l G _ _ hcr44) m_838 m_840 m_14 m_41 m_841 (by decide +kernel) (by decide) gE_101 rfl hE hP hS (fun _ h => h) (fun _ _ h => h) rfl hl.1 rfl (Nat.le_of_ble_eq_true rfl) dX10_order_35 ⟨by decide, by decide⟩ ⟨Nat.zero_le _, Nat.zero_le _⟩ (fun H locs hP hS => ?_)
          exact g_iret hx hb hr hlk hE hP hS h dX10_order_38

def M_X10_isOrder (a1 : Int32) (σ : gSt) : gO :=
  gIx 549 4 (gBd (M_X10_within a1 0 ((σ 102 (4 : Int32).toNatClampNeg) - 1) σ) (fun r3 σ2 => gGd (r3 = 0 ∨ r3 = 1) (some (r3, σ2))))
set_option maxHeartbeats 4000000 in
set_option maxRecDepth 100000 in
theorem c_X10_isOrder (l : Launch) (G : gPar) (a1 : Int32) (σ : gSt) {r : Int32} {σ' : gSt} (h : M_X10_isOrder a1 σ = some (r, σ')) : gC l G yX10_isOrder cX10_isOrder 2 (some .boolean) 1 22 [.ref (G.2.2.1 101), .int a1] σ r σ' := by
  refine gC_of (by decide) (Nat.le_of_ble_eq_true rfl) ?_
  intro p e s m below meth c hx hb hr ht hown hlk hml hE hP ls hl
  have hS : va_S (gA G) s.heap s.heap [] := va_S.rf
  have hl : lv_has ls 2 [(0, .ref (G.2.2.1 101)), (1, .int a1)] := hl
  unfold M_X10_isOrder at h
  refine lv_iload_n hx hb dX10_isOrder_0 rfl (lv_at hl 1 rfl) ?_
  refine lv_iconst (v := 0) hx hb dX10_isOrder_1 (by decide) ?_
  refine lv_aload_n hx hb dX10_isOrder_2 rfl (lv_at hl 0 rfl) ?_
  refine g_get hx hb ht hown hE hP (by decide) gE_101 uX10 rfl 0 (by decide) m_790 rfl rfl dX10_isOrder_3 ?_
  refine lv_iconst (v := 4) hx hb dX10_isOrder_6 (by decide) ?_
  obtain ⟨i1, h⟩ := g_ix h
  refine g_iald hx hb hE hP (by decide) rfl (by decide) i1 dX10_isOrder_7 ?_
  refine lv_iconst (v := 1) hx hb dX10_isOrder_8 (by decide) ?_
  refine lv_isub hx hb dX10_isOrder_9 ?_
  obtain ⟨r3, σ2, hcr3, h⟩ := g_bd h
  refine g_callS (As := [.int a1, .int 0, .int ((σ 102 (4 : Int32).toNatClampNeg) - 1)]) (n := 3) hx hb hml hown ht (c_X10_within l G _ _ _ _ hcr3) m_834 m_835 m_41 m_836 (by decide +kernel) hE hP hS (fun _ h => h) (fun _ _ h => h) rfl hl.1 rfl (Nat.le_of_ble_eq_true rfl) dX10_isOrder_10 ⟨by decide, by decide⟩ ⟨Nat.zero_le _, Nat.zero_le _⟩ (fun H locs hP hS => ?_)
  obtain ⟨z4, h⟩ := g_gd h
  exact g_zret hx hb hr hlk hE hP hS z4 h dX10_isOrder_13

def M_X10_appeal (a1 a2 : Int32) (σ : gSt) : gO :=
  gBd (M_X10_isOrder a1 σ) (fun r2 σ1 => if r2 = 0 then (gBd (M_X10_finding (-100001) σ1) (fun r5 σ4 => some (r5, σ4))) else (gBd (M_X10_isDay a2 σ1) (fun r7 σ6 => if r7 = 0 then (gBd (M_X10_finding (-100001) σ6) (fun r37 σ36 => some (r37, σ36))) else (gIx 549 ((469 : Int32) + a1) (if (σ6 102 ((469 : Int32) + a1).toNatClampNeg) = 0 then (gIx 549 ((429 : Int32) + a1) (gNm ((σ6 102 ((429 : Int32) + a1).toNatClampNeg) : Int32) (fun x12 => if a2 < x12 then (gBd (M_X10_finding (-100008) σ6) (fun r15 σ14 => some (r15, σ14))) else (gIx 549 5 (if a2 ≤ (x12 + (σ6 102 (5 : Int32).toNatClampNeg)) then (gNm (gUp σ6 101 7 0) (fun σ18 => gIx 549 ((369 : Int32) + a1) (gBd (M_X10_settlementOf (σ18 102 ((369 : Int32) + a1).toNatClampNeg) x12 a2 σ18) (fun r21 σ20 => gIx 549 ((409 : Int32) + a1) (if r21 = (σ20 102 ((409 : Int32) + a1).toNatClampNeg) then (gIx 549 ((469 : Int32) + a1) (gNm (gUp σ20 102 ((469 : Int32) + a1).toNatClampNeg 1) (fun σ30 => some (0, σ30)))) else (gIx 549 ((469 : Int32) + a1) (gNm (gUp σ20 102 ((469 : Int32) + a1).toNatClampNeg 2) (fun σ26 => some (1, σ26))))))))) else (gBd (M_X10_finding (-100008) σ6) (fun r33 σ32 => some (r33, σ32)))))))) else (gBd (M_X10_finding (-100004) σ6) (fun r35 σ34 => some (r35, σ34))))))))
set_option maxHeartbeats 4000000 in
set_option maxRecDepth 100000 in
theorem c_X10_appeal (l : Launch) (G : gPar) (a1 a2 : Int32) (σ : gSt) {r : Int32} {σ' : gSt} (h : M_X10_appeal a1 a2 σ = some (r, σ')) : gC l G yX10_appeal cX10_appeal 5 (some .int) 4 104 [.ref (G.2.2.1 101), .int a1, .int a2] σ r σ' := by
  refine gC_of (by decide) (Nat.le_of_ble_eq_true rfl) ?_
  intro p e s m below meth c hx hb hr ht hown hlk hml hE hP ls hl
  have hS : va_S (gA G) s.heap s.heap [] := va_S.rf
  have hl : lv_has ls 5 [(0, .ref (G.2.2.1 101)), (1, .int a1), (2, .int a2)] := hl
  unfold M_X10_appeal at h
  refine lv_aload_n hx hb dX10_appeal_0 rfl (lv_at hl 0 rfl) ?_
  refine lv_iload_n hx hb dX10_appeal_1 rfl (lv_at hl 1 rfl) ?_
  obtain ⟨r2, σ1, hcr2, h⟩ := g_bd h
  refine g_callV (As := [.int a1]) (n := 1) hx hb hml hown ht (c_X10_isOrder l G _ _ hcr2) m_966 m_968 m_26 m_41 m_969 (by decide +kernel) (by decide) gE_101 rfl hE hP hS (fun _ h => h) (fun _ _ h => h) rfl hl.1 rfl (Nat.le_of_ble_eq_true rfl) dX10_appeal_2 ⟨by decide, by decide⟩ ⟨Nat.zero_le _, Nat.zero_le _⟩ (fun H locs hP hS => ?_)
  refine lv_if_eq (tgt := 15) hx hb dX10_appeal_5 (by decide) (fun c3 => ?_) (fun c3 => ?_)
  · have h := g_ift c3 h
    refine lv_aload_n hx hb dX10_appeal_15 rfl (lv_at hl 0 rfl) ?_
    refine lv_ldc hx hb hown (ht _ m_837) dX10_appeal_16 ?_
    obtain ⟨r5, σ4, hcr5, h⟩ := g_bd h
    refine g_callV (As := [.int (-100001)]) (n := 1) hx hb hml hown ht (c_X10_finding l G _ _ hcr5) m_838 m_840 m_14 m_41 m_841 (by decide +kernel) (by decide) gE_101 rfl hE hP hS (fun _ h => h) (fun _ _ h => h) rfl hl.1 rfl (Nat.le_of_ble_eq_true rfl) dX10_appeal_18 ⟨by decide, by decide⟩ ⟨Nat.zero_le _, Nat.zero_le _⟩ (fun H locs hP hS => ?_)
    exact g_iret hx hb hr hlk hE hP hS h dX10_appeal_21
  · have h := g_iff c3 h
    refine lv_iload_n hx hb dX10_appeal_8 rfl (lv_at hl 2 rfl) ?_
    obtain ⟨r7, σ6, hcr7, h⟩ := g_bd h
    refine g_callS (As := [.int a2]) (n := 1) hx hb hml hown ht (c_X10_isDay l G _ _ hcr7) m_856 m_857 m_41 m_858 (by decide +kernel) hE hP hS (fun _ h => h) (fun _ _ h => h) rfl hl.1 rfl (Nat.le_of_ble_eq_true rfl) dX10_appeal_9 ⟨by decide, by decide⟩ ⟨Nat.zero_le _, Nat.zero_le _⟩ (fun H locs hP hS => ?_)
    refine lv_if_ne (tgt := 22) hx hb dX10_appeal_12 (by decide) (fun c8 => ?_) (fun c8 => ?_)
    · have h := g_iff c8 h
      refine lv_aload_n hx hb dX10_appeal_22 rfl (lv_at hl 0 rfl) ?_
      refine g_get hx hb ht hown hE hP (by decide) gE_101 uX10 rfl 0 (by decide) m_790 rfl rfl dX10_appeal_23 ?_
      refine lv_sipush (v := 469) hx hb dX10_appeal_26 (by decide) ?_
      refine lv_iload_n hx hb dX10_appeal_29 rfl (lv_at hl 1 rfl) ?_
      refine lv_iadd hx hb dX10_appeal_30 ?_
      obtain ⟨i9, h⟩ := g_ix h
      refine g_iald hx hb hE hP (by decide) rfl (by decide) i9 dX10_appeal_31 ?_
      refine lv_if_eq (tgt := 42) hx hb dX10_appeal_32 (by decide) (fun c10 => ?_) (fun c10 => ?_)
      · have h := g_ift c10 h
        refine lv_aload_n hx hb dX10_appeal_42 rfl (lv_at hl 0 rfl) ?_
        refine g_get hx hb ht hown hE hP (by decide) gE_101 uX10 rfl 0 (by decide) m_790 rfl rfl dX10_appeal_43 ?_
        refine lv_sipush (v := 429) hx hb dX10_appeal_46 (by decide) ?_
        refine lv_iload_n hx hb dX10_appeal_49 rfl (lv_at hl 1 rfl) ?_
        refine lv_iadd hx hb dX10_appeal_50 ?_
        obtain ⟨i11, h⟩ := g_ix h
        refine g_iald hx hb hE hP (by decide) rfl (by decide) i11 dX10_appeal_51 ?_
        refine lv_topi (fun x12 ex12 => ?_)
        have h := g_nm ex12 h
        refine lv_istore_n (lv' := [(3, .int x12), (0, .ref (G.2.2.1 101)), (1, .int a1), (2, .int a2)]) hx hb dX10_appeal_52 rfl hl (by decide) rfl (fun ls hl => ?_)
        refine lv_iload_n hx hb dX10_appeal_53 rfl (lv_at hl 3 rfl) ?_
        refine lv_iload_n hx hb dX10_appeal_54 rfl (lv_at hl 0 rfl) ?_
        refine lv_icmp_lt (tgt := 70) hx hb dX10_appeal_55 (by decide) (fun c13 => ?_) (fun c13 => ?_)
        · have h := g_ift c13 h
          refine lv_aload_n hx hb dX10_appeal_70 rfl (lv_at hl 1 rfl) ?_
          refine lv_ldc hx hb hown (ht _ m_970) dX10_appeal_71 ?_
          obtain ⟨r15, σ14, hcr15, h⟩ := g_bd h
          refine g_callV (As := [.int (-100008)]) (n := 1) hx hb hml hown ht (c_X10_finding l G _ _ hcr15) m_838 m_840 m_14 m_41 m_841 (by decide +kernel) (by decide) gE_101 rfl hE hP hS (fun _ h => h) (fun _ _ h => h) rfl hl.1 rfl (Nat.le_of_ble_eq_true rfl) dX10_appeal_73 ⟨by decide, by decide⟩ ⟨Nat.zero_le _, Nat.zero_le _⟩ (fun H locs hP hS => ?_)
          exact g_iret hx hb hr hlk hE hP hS h dX10_appeal_76
        · have h := g_iff c13 h
          refine lv_iload_n hx hb dX10_appeal_58 rfl (lv_at hl 3 rfl) ?_
          refine lv_iload_n hx hb dX10_appeal_59 rfl (lv_at hl 0 rfl) ?_
          refine lv_aload_n hx hb dX10_appeal_60 rfl (lv_at hl 1 rfl) ?_
          refine g_get hx hb ht hown hE hP (by decide) gE_101 uX10 rfl 0 (by decide) m_790 rfl rfl dX10_appeal_61 ?_
          refine lv_iconst (v := 5) hx hb dX10_appeal_64 (by decide) ?_
          obtain ⟨i16, h⟩ := g_ix h
          refine g_iald hx hb hE hP (by decide) rfl (by decide) i16 dX10_appeal_65 ?_
          refine lv_iadd hx hb dX10_appeal_66 ?_
          refine lv_icmp_le (tgt := 77) hx hb dX10_appeal_67 (by decide) (fun c17 => ?_) (fun c17 => ?_)
          · have h := g_ift c17 h
            refine lv_aload_n hx hb dX10_appeal_77 rfl (lv_at hl 1 rfl) ?_
            refine lv_iconst (v := 0) hx hb dX10_appeal_78 (by decide) ?_
            refine g_put hx hb ht hown hE hP hS (by decide) gE_101 uX10 tyX10_ok nmX10 rfl 7 (by decide) m_797 rfl rfl rfl rfl rfl (Nat.le_of_ble_eq_true rfl) rfl dX10_appeal_79 (fun H locs σ18 eσ18 hP hS => ?_)
            have h := g_nm eσ18 h
            refine lv_aload_n hx hb dX10_appeal_82 rfl (lv_at hl 1 rfl) ?_
            refine lv_aload_n hx hb dX10_appeal_83 rfl (lv_at hl 1 rfl) ?_
            refine g_get hx hb ht hown hE hP (by decide) gE_101 uX10 rfl 0 (by decide) m_790 rfl rfl dX10_appeal_84 ?_
            refine lv_sipush (v := 369) hx hb dX10_appeal_87 (by decide) ?_
            refine lv_iload_n hx hb dX10_appeal_90 rfl (lv_at hl 2 rfl) ?_
            refine lv_iadd hx hb dX10_appeal_91 ?_
            obtain ⟨i19, h⟩ := g_ix h
            refine g_iald hx hb hE hP (by decide) rfl (by decide) i19 dX10_appeal_92 ?_
            refine lv_iload_n hx hb dX10_appeal_93 rfl (lv_at hl 0 rfl) ?_
            refine lv_iload_n hx hb dX10_appeal_94 rfl (lv_at hl 3 rfl) ?_
            obtain ⟨r21, σ20, hcr21, h⟩ := g_bd h
            refine g_callV (As := [.int (σ18 102 ((369 : Int32) + a1).toNatClampNeg), .int x12, .int a2]) (n := 3) hx hb hml hown ht (c_X10_settlementOf l G _ _ _ _ hcr21) m_930 m_932 m_23 m_41 m_933 (by decide +kernel) (by decide) gE_101 rfl hE hP hS (fun _ h => h) (fun _ _ h => h) rfl hl.1 rfl (Nat.le_of_ble_eq_true rfl) dX10_appeal_95 ⟨by decide, by decide⟩ ⟨Nat.zero_le _, Nat.zero_le _⟩ (fun H locs hP hS => ?_)
            refine lv_aload_n hx hb dX10_appeal_98 rfl (lv_at hl 1 rfl) ?_
            refine g_get hx hb ht hown hE hP (by decide) gE_101 uX10 rfl 0 (by decide) m_790 rfl rfl dX10_appeal_99 ?_
            refine lv_sipush (v := 409) hx hb dX10_appeal_102 (by decide) ?_
            refine lv_iload_n hx hb dX10_appeal_105 rfl (lv_at hl 2 rfl) ?_
            refine lv_iadd hx hb dX10_appeal_106 ?_
            obtain ⟨i22, h⟩ := g_ix h
            refine g_iald hx hb hE hP (by decide) rfl (by decide) i22 dX10_appeal_107 ?_
            refine lv_icmp_ne (tgt := 115) hx hb dX10_appeal_108 (by decide) (fun c23 => ?_) (fun c23 => ?_)
            · have h := g_iff c23 h
              refine lv_iconst (v := 0) hx hb dX10_appeal_115 (by decide) ?_
              refine lv_istore (lv' := [(4, .int 0), (3, .int x12), (0, .ref (G.2.2.1 101)), (1, .int a1), (2, .int a2)]) hx hb dX10_appeal_116 hl (by decide) rfl (fun ls hl => ?_)
              refine lv_aload_n hx hb dX10_appeal_118 rfl (lv_at hl 2 rfl) ?_
              refine g_get hx hb ht hown hE hP (by decide) gE_101 uX10 rfl 0 (by decide) m_790 rfl rfl dX10_appeal_119 ?_
              refine lv_sipush (v := 469) hx hb dX10_appeal_122 (by decide) ?_
              refine lv_iload_n hx hb dX10_appeal_125 rfl (lv_at hl 3 rfl) ?_
              refine lv_iadd hx hb dX10_appeal_126 ?_
              refine lv_iload hx hb dX10_appeal_127 (lv_at hl 0 rfl) ?_
              refine lv_if_eq (tgt := 136) hx hb dX10_appeal_129 (by decide) (fun _ => ?_) (fun c24 => absurd (by decide) c24)
              refine lv_iconst (v := 2) hx hb dX10_appeal_136 (by decide) ?_
              obtain ⟨i25, h⟩ := g_ix h
              refine g_iast hx hb hE hP hS (by decide) rfl (by decide) i25 dX10_appeal_137 (fun H locs σ26 eσ26 hP hS => ?_)
              have h := g_nm eσ26 h
              refine lv_iload hx hb dX10_appeal_138 (lv_at hl 0 rfl) ?_
              refine lv_if_eq (tgt := 147) hx hb dX10_appeal_140 (by decide) (fun _ => ?_) (fun c27 => absurd (by decide) c27)
              refine lv_iconst (v := 1) hx hb dX10_appeal_147 (by decide) ?_
              exact g_iret hx hb hr hlk hE hP hS h dX10_appeal_148
            · have h := g_ift c23 h
              refine lv_iconst (v := 1) hx hb dX10_appeal_111 (by decide) ?_
              refine lv_goto (tgt := 116) hx hb dX10_appeal_112 (by decide) ?_
              refine lv_istore (lv' := [(4, .int 1), (3, .int x12), (0, .ref (G.2.2.1 101)), (1, .int a1), (2, .int a2)]) hx hb dX10_appeal_116 hl (by decide) rfl (fun ls hl => ?_)
              refine lv_aload_n hx hb dX10_appeal_118 rfl (lv_at hl 2 rfl) ?_
              refine g_get hx hb ht hown hE hP (by decide) gE_101 uX10 rfl 0 (by decide) m_790 rfl rfl dX10_appeal_119 ?_
              refine lv_sipush (v := 469) hx hb dX10_appeal_122 (by decide) ?_
              refine lv_iload_n hx hb dX10_appeal_125 rfl (lv_at hl 3 rfl) ?_
              refine lv_iadd hx hb dX10_appeal_126 ?_
              refine lv_iload hx hb dX10_appeal_127 (lv_at hl 0 rfl) ?_
              refine lv_if_eq (tgt := 136) hx hb dX10_appeal_129 (by decide) (fun c28 => absurd c28 (by decide)) (fun _ => ?_)
              refine lv_iconst (v := 1) hx hb dX10_appeal_132 (by decide) ?_
              refine lv_goto (tgt := 137) hx hb dX10_appeal_133 (by decide) ?_
              obtain ⟨i29, h⟩ := g_ix h
              refine g_iast hx hb hE hP hS (by decide) rfl (by decide) i29 dX10_appeal_137 (fun H locs σ30 eσ30 hP hS => ?_)
              have h := g_nm eσ30 h
              refine lv_iload hx hb dX10_appeal_138 (lv_at hl 0 rfl) ?_
              refine lv_if_eq (tgt := 147) hx hb dX10_appeal_140 (by decide) (fun c31 => absurd c31 (by decide)) (fun _ => ?_)
              refine lv_iconst (v := 0) hx hb dX10_appeal_143 (by decide) ?_
              refine lv_goto (tgt := 148) hx hb dX10_appeal_144 (by decide) ?_
              exact g_iret hx hb hr hlk hE hP hS h dX10_appeal_148
          · have h := g_iff c17 h
            refine lv_aload_n hx hb dX10_appeal_70 rfl (lv_at hl 1 rfl) ?_
            refine lv_ldc hx hb hown (ht _ m_970) dX10_appeal_71 ?_
            obtain ⟨r33, σ32, hcr33, h⟩ := g_bd h
            refine g_callV (As := [.int (-100008)]) (n := 1) hx hb hml hown ht (c_X10_finding l G _ _ hcr33) m_838 m_840 m_14 m_41 m_841 (by decide +kernel) (by decide) gE_101 rfl hE hP hS (fun _ h => h) (fun _ _ h => h) rfl hl.1 rfl (Nat.le_of_ble_eq_true rfl) dX10_appeal_73 ⟨by decide, by decide⟩ ⟨Nat.zero_le _, Nat.zero_le _⟩ (fun H locs hP hS => ?_)
            exact g_iret hx hb hr hlk hE hP hS h dX10_appeal_76
      · have h := g_iff c10 h
        refine lv_aload_n hx hb dX10_appeal_35 rfl (lv_at hl 0 rfl) ?_
        refine lv_ldc hx hb hown (ht _ m_867) dX10_appeal_36 ?_
        obtain ⟨r35, σ34, hcr35, h⟩ := g_bd h
        refine g_callV (As := [.int (-100004)]) (n := 1) hx hb hml hown ht (c_X10_finding l G _ _ hcr35) m_838 m_840 m_14 m_41 m_841 (by decide +kernel) (by decide) gE_101 rfl hE hP hS (fun _ h => h) (fun _ _ h => h) rfl hl.1 rfl (Nat.le_of_ble_eq_true rfl) dX10_appeal_38 ⟨by decide, by decide⟩ ⟨Nat.zero_le _, Nat.zero_le _⟩ (fun H locs hP hS => ?_)
        exact g_iret hx hb hr hlk hE hP hS h dX10_appeal_41
    · have h := g_ift c8 h
      refine lv_aload_n hx hb dX10_appeal_15 rfl (lv_at hl 0 rfl) ?_
      refine lv_ldc hx hb hown (ht _ m_837) dX10_appeal_16 ?_
      obtain ⟨r37, σ36, hcr37, h⟩ := g_bd h
      refine g_callV (As := [.int (-100001)]) (n := 1) hx hb hml hown ht (c_X10_finding l G _ _ hcr37) m_838 m_840 m_14 m_41 m_841 (by decide +kernel) (by decide) gE_101 rfl hE hP hS (fun _ h => h) (fun _ _ h => h) rfl hl.1 rfl (Nat.le_of_ble_eq_true rfl) dX10_appeal_18 ⟨by decide, by decide⟩ ⟨Nat.zero_le _, Nat.zero_le _⟩ (fun H locs hP hS => ?_)
      exact g_iret hx hb hr hlk hE hP hS h dX10_appeal_21

def M_X10_ordered (a1 a2 : Int32) (σ : gSt) : gO :=
  gBd (M_X10_isOrder a1 σ) (fun r2 σ1 => if r2 = 0 then (gBd (M_X10_finding (-100001) σ1) (fun r5 σ4 => some (r5, σ4))) else (gBd (M_X10_within a2 0 5 σ1) (fun r7 σ6 => if r7 = 0 then (gBd (M_X10_finding (-100001) σ6) (fun r10 σ9 => some (r10, σ9))) else (gIx 549 (((369 : Int32) + ((20 : Int32) * a2)) + a1) (some ((σ6 102 (((369 : Int32) + ((20 : Int32) * a2)) + a1).toNatClampNeg), σ6))))))
set_option maxHeartbeats 4000000 in
set_option maxRecDepth 100000 in
theorem c_X10_ordered (l : Launch) (G : gPar) (a1 a2 : Int32) (σ : gSt) {r : Int32} {σ' : gSt} (h : M_X10_ordered a1 a2 σ = some (r, σ')) : gC l G yX10_ordered cX10_ordered 3 (some .int) 2 43 [.ref (G.2.2.1 101), .int a1, .int a2] σ r σ' := by
  refine gC_of (by decide) (Nat.le_of_ble_eq_true rfl) ?_
  intro p e s m below meth c hx hb hr ht hown hlk hml hE hP ls hl
  have hS : va_S (gA G) s.heap s.heap [] := va_S.rf
  have hl : lv_has ls 3 [(0, .ref (G.2.2.1 101)), (1, .int a1), (2, .int a2)] := hl
  unfold M_X10_ordered at h
  refine lv_aload_n hx hb dX10_ordered_0 rfl (lv_at hl 0 rfl) ?_
  refine lv_iload_n hx hb dX10_ordered_1 rfl (lv_at hl 1 rfl) ?_
  obtain ⟨r2, σ1, hcr2, h⟩ := g_bd h
  refine g_callV (As := [.int a1]) (n := 1) hx hb hml hown ht (c_X10_isOrder l G _ _ hcr2) m_966 m_968 m_26 m_41 m_969 (by decide +kernel) (by decide) gE_101 rfl hE hP hS (fun _ h => h) (fun _ _ h => h) rfl hl.1 rfl (Nat.le_of_ble_eq_true rfl) dX10_ordered_2 ⟨by decide, by decide⟩ ⟨Nat.zero_le _, Nat.zero_le _⟩ (fun H locs hP hS => ?_)
  refine lv_if_eq (tgt := 35) hx hb dX10_ordered_5 (by decide) (fun c3 => ?_) (fun c3 => ?_)
  · have h := g_ift c3 h
    refine lv_aload_n hx hb dX10_ordered_35 rfl (lv_at hl 0 rfl) ?_
    refine lv_ldc hx hb hown (ht _ m_837) dX10_ordered_36 ?_
    obtain ⟨r5, σ4, hcr5, h⟩ := g_bd h
    refine g_callV (As := [.int (-100001)]) (n := 1) hx hb hml hown ht (c_X10_finding l G _ _ hcr5) m_838 m_840 m_14 m_41 m_841 (by decide +kernel) (by decide) gE_101 rfl hE hP hS (fun _ h => h) (fun _ _ h => h) rfl hl.1 rfl (Nat.le_of_ble_eq_true rfl) dX10_ordered_38 ⟨by decide, by decide⟩ ⟨Nat.zero_le _, Nat.zero_le _⟩ (fun H locs hP hS => ?_)
    exact g_iret hx hb hr hlk hE hP hS h dX10_ordered_41
  · have h := g_iff c3 h
    refine lv_iload_n hx hb dX10_ordered_8 rfl (lv_at hl 2 rfl) ?_
    refine lv_iconst (v := 0) hx hb dX10_ordered_9 (by decide) ?_
    refine lv_iconst (v := 5) hx hb dX10_ordered_10 (by decide) ?_
    obtain ⟨r7, σ6, hcr7, h⟩ := g_bd h
    refine g_callS (As := [.int a2, .int 0, .int 5]) (n := 3) hx hb hml hown ht (c_X10_within l G _ _ _ _ hcr7) m_834 m_835 m_41 m_836 (by decide +kernel) hE hP hS (fun _ h => h) (fun _ _ h => h) rfl hl.1 rfl (Nat.le_of_ble_eq_true rfl) dX10_ordered_11 ⟨by decide, by decide⟩ ⟨Nat.zero_le _, Nat.zero_le _⟩ (fun H locs hP hS => ?_)
    refine lv_if_eq (tgt := 35) hx hb dX10_ordered_14 (by decide) (fun c8 => ?_) (fun c8 => ?_)
    · have h := g_ift c8 h
      refine lv_aload_n hx hb dX10_ordered_35 rfl (lv_at hl 0 rfl) ?_
      refine lv_ldc hx hb hown (ht _ m_837) dX10_ordered_36 ?_
      obtain ⟨r10, σ9, hcr10, h⟩ := g_bd h
      refine g_callV (As := [.int (-100001)]) (n := 1) hx hb hml hown ht (c_X10_finding l G _ _ hcr10) m_838 m_840 m_14 m_41 m_841 (by decide +kernel) (by decide) gE_101 rfl hE hP hS (fun _ h => h) (fun _ _ h => h) rfl hl.1 rfl (Nat.le_of_ble_eq_true rfl) dX10_ordered_38 ⟨by decide, by decide⟩ ⟨Nat.zero_le _, Nat.zero_le _⟩ (fun H locs hP hS => ?_)
      exact g_iret hx hb hr hlk hE hP hS h dX10_ordered_41
    · have h := g_iff c8 h
      refine lv_aload_n hx hb dX10_ordered_17 rfl (lv_at hl 0 rfl) ?_
      refine g_get hx hb ht hown hE hP (by decide) gE_101 uX10 rfl 0 (by decide) m_790 rfl rfl dX10_ordered_18 ?_
      refine lv_sipush (v := 369) hx hb dX10_ordered_21 (by decide) ?_
      refine lv_bipush (v := 20) hx hb dX10_ordered_24 (by decide) ?_
      refine lv_iload_n hx hb dX10_ordered_26 rfl (lv_at hl 2 rfl) ?_
      refine lv_imul hx hb dX10_ordered_27 ?_
      refine lv_iadd hx hb dX10_ordered_28 ?_
      refine lv_iload_n hx hb dX10_ordered_29 rfl (lv_at hl 1 rfl) ?_
      refine lv_iadd hx hb dX10_ordered_30 ?_
      obtain ⟨i11, h⟩ := g_ix h
      refine g_iald hx hb hE hP (by decide) rfl (by decide) i11 dX10_ordered_31 ?_
      refine lv_goto (tgt := 41) hx hb dX10_ordered_32 (by decide) ?_
      exact g_iret hx hb hr hlk hE hP hS h dX10_ordered_41

def L4_X10_costs (a1 : Int32) : Nat → Int32 → Int32 → gSt → (Int32 → Int32 → gSt → gO) → gO
  | 0, _, _, _, _ => none
  | nL4 + 1, l4_3, l4_2, σL4, kL4 =>
    gIx 549 4 (if (σL4 102 (4 : Int32).toNatClampNeg) ≤ l4_3 then (kL4 l4_3 l4_2 σL4) else (gIx 549 ((469 : Int32) + l4_3) (if (σL4 102 ((469 : Int32) + l4_3).toNatClampNeg) = 2 then (gIx 549 ((389 : Int32) + l4_3) (gNm ((σL4 102 ((389 : Int32) + l4_3).toNatClampNeg) : Int32) (fun x18 => if x18 = a1 then (gIx 549 ((449 : Int32) + l4_3) (gNm ((l4_2 + (σL4 102 ((449 : Int32) + l4_3).toNatClampNeg)) : Int32) (fun x23 => gNm (l4_3 + 1 : Int32) (fun x24 => L4_X10_costs a1 nL4 x24 x23 σL4 kL4)))) else (gNm ((l4_2 + 0) : Int32) (fun x20 => gNm (l4_3 + 1 : Int32) (fun x21 => L4_X10_costs a1 nL4 x21 x20 σL4 kL4)))))) else (gIx 549 ((409 : Int32) + l4_3) (gNm ((σL4 102 ((409 : Int32) + l4_3).toNatClampNeg) : Int32) (fun x10 => if x10 = a1 then (gIx 549 ((449 : Int32) + l4_3) (gNm ((l4_2 + (σL4 102 ((449 : Int32) + l4_3).toNatClampNeg)) : Int32) (fun x15 => gNm (l4_3 + 1 : Int32) (fun x16 => L4_X10_costs a1 nL4 x16 x15 σL4 kL4)))) else (gNm ((l4_2 + 0) : Int32) (fun x12 => gNm (l4_3 + 1 : Int32) (fun x13 => L4_X10_costs a1 nL4 x13 x12 σL4 kL4)))))))))
def M_X10_costs (a1 : Int32) (σ : gSt) : gO :=
  gBd (M_X10_isParish a1 σ) (fun r2 σ1 => if r2 = 0 then (gBd (M_X10_finding (-100001) σ1) (fun r29 σ28 => some (r29, σ28))) else (L4_X10_costs a1 gFu 0 0 σ1 (fun z25 z26 σ27 => some (z26, σ27))))
set_option maxHeartbeats 4000000 in
set_option maxRecDepth 100000 in
theorem c_X10_costs (l : Launch) (G : gPar) (a1 : Int32) (σ : gSt) {r : Int32} {σ' : gSt} (h : M_X10_costs a1 σ = some (r, σ')) : gC l G yX10_costs cX10_costs 5 (some .int) 2 43 [.ref (G.2.2.1 101), .int a1] σ r σ' := by
  refine gC_of (by decide) (Nat.le_of_ble_eq_true rfl) ?_
  intro p e s m below meth c hx hb hr ht hown hlk hml hE hP ls hl
  have hS : va_S (gA G) s.heap s.heap [] := va_S.rf
  have hl : lv_has ls 5 [(0, .ref (G.2.2.1 101)), (1, .int a1)] := hl
  unfold M_X10_costs at h
  refine lv_aload_n hx hb dX10_costs_0 rfl (lv_at hl 0 rfl) ?_
  refine lv_iload_n hx hb dX10_costs_1 rfl (lv_at hl 1 rfl) ?_
  obtain ⟨r2, σ1, hcr2, h⟩ := g_bd h
  refine g_callV (As := [.int a1]) (n := 1) hx hb hml hown ht (c_X10_isParish l G _ _ hcr2) m_847 m_849 m_15 m_41 m_850 (by decide +kernel) (by decide) gE_101 rfl hE hP hS (fun _ h => h) (fun _ _ h => h) rfl hl.1 rfl (Nat.le_of_ble_eq_true rfl) dX10_costs_2 ⟨by decide, by decide⟩ ⟨Nat.zero_le _, Nat.zero_le _⟩ (fun H locs hP hS => ?_)
  refine lv_if_ne (tgt := 15) hx hb dX10_costs_5 (by decide) (fun c3 => ?_) (fun c3 => ?_)
  · have h := g_iff c3 h
    refine lv_iconst (v := 0) hx hb dX10_costs_15 (by decide) ?_
    refine lv_istore_n (lv' := [(2, .int 0), (0, .ref (G.2.2.1 101)), (1, .int a1)]) hx hb dX10_costs_16 rfl hl (by decide) rfl (fun ls hl => ?_)
    refine lv_iconst (v := 0) hx hb dX10_costs_17 (by decide) ?_
    refine lv_istore_n (lv' := [(3, .int 0), (2, .int 0), (0, .ref (G.2.2.1 101)), (1, .int a1)]) hx hb dX10_costs_18 rfl hl (by decide) rfl (fun ls hl => ?_)
    have LPL4 : ∀ (kL4 : Int32 → Int32 → gSt → gO), (∀ (l4_3 l4_2 : Int32) (σL4 : gSt) (H : Heap) (locs : List Loc) (ls : Array Slot), kL4 l4_3 l4_2 σL4 = some (r, σ') → gW G σL4 H → va_S (gA G) s.heap H locs → lv_has ls 5 [(3, .int l4_3), (2, .int l4_2), (0, .ref (G.2.2.1 101)), (1, .int a1)] → W p l e (gRm 2 43) s m ([.ref (G.2.2.1 101), .int a1].toArray) below meth c H locs 0 0 (MQ below (gQ G r σ') ([.ref (G.2.2.1 101), .int a1].toArray) s 0 0 (gA G)) (F0 m 97 ls [])) → ∀ (nL4 : Nat) (l4_3 l4_2 : Int32) (σL4 : gSt) (H : Heap) (locs : List Loc) (ls : Array Slot), L4_X10_costs a1 nL4 l4_3 l4_2 σL4 kL4 = some (r, σ') → gW G σL4 H → va_S (gA G) s.heap H locs → lv_has ls 5 [(3, .int l4_3), (2, .int l4_2), (0, .ref (G.2.2.1 101)), (1, .int a1)] → W p l e (gRm 2 43) s m ([.ref (G.2.2.1 101), .int a1].toArray) below meth c H locs 0 0 (MQ below (gQ G r σ') ([.ref (G.2.2.1 101), .int a1].toArray) s 0 0 (gA G)) (F0 m 19 ls []) := by
      intro kL4 hKL4 nL4
      induction nL4 with
      | zero =>
        intro l4_3 l4_2 σL4 H locs ls h
        cases h
      | succ nL4 ihL4 =>
        intro l4_3 l4_2 σL4 H locs ls h hP hS hl
        rw [L4_X10_costs] at h
        refine lv_iload_n hx hb dX10_costs_19 rfl (lv_at hl 0 rfl) ?_
        refine lv_aload_n hx hb dX10_costs_20 rfl (lv_at hl 2 rfl) ?_
        refine g_get hx hb ht hown hE hP (by decide) gE_101 uX10 rfl 0 (by decide) m_790 rfl rfl dX10_costs_21 ?_
        refine lv_iconst (v := 4) hx hb dX10_costs_24 (by decide) ?_
        obtain ⟨i5, h⟩ := g_ix h
        refine g_iald hx hb hE hP (by decide) rfl (by decide) i5 dX10_costs_25 ?_
        refine lv_icmp_ge (tgt := 97) hx hb dX10_costs_26 (by decide) (fun c6 => ?_) (fun c6 => ?_)
        · have h := g_ift c6 h
          exact hKL4 _ _ _ _ _ _ h hP hS (lv_sub hl [0, 1, 2, 3] rfl)
        · have h := g_iff c6 h
          refine lv_aload_n hx hb dX10_costs_29 rfl (lv_at hl 2 rfl) ?_
          refine g_get hx hb ht hown hE hP (by decide) gE_101 uX10 rfl 0 (by decide) m_790 rfl rfl dX10_costs_30 ?_
          refine lv_sipush (v := 469) hx hb dX10_costs_33 (by decide) ?_
          refine lv_iload_n hx hb dX10_costs_36 rfl (lv_at hl 0 rfl) ?_
          refine lv_iadd hx hb dX10_costs_37 ?_
          obtain ⟨i7, h⟩ := g_ix h
          refine g_iald hx hb hE hP (by decide) rfl (by decide) i7 dX10_costs_38 ?_
          refine lv_iconst (v := 2) hx hb dX10_costs_39 (by decide) ?_
          refine lv_icmp_ne (tgt := 56) hx hb dX10_costs_40 (by decide) (fun c8 => ?_) (fun c8 => ?_)
          · have h := g_iff c8 h
            refine lv_aload_n hx hb dX10_costs_56 rfl (lv_at hl 2 rfl) ?_
            refine g_get hx hb ht hown hE hP (by decide) gE_101 uX10 rfl 0 (by decide) m_790 rfl rfl dX10_costs_57 ?_
            refine lv_sipush (v := 409) hx hb dX10_costs_60 (by decide) ?_
            refine lv_iload_n hx hb dX10_costs_63 rfl (lv_at hl 0 rfl) ?_
            refine lv_iadd hx hb dX10_costs_64 ?_
            obtain ⟨i9, h⟩ := g_ix h
            refine g_iald hx hb hE hP (by decide) rfl (by decide) i9 dX10_costs_65 ?_
            refine lv_topi (fun x10 ex10 => ?_)
            have h := g_nm ex10 h
            refine lv_istore (lv' := [(4, .int x10), (3, .int l4_3), (2, .int l4_2), (0, .ref (G.2.2.1 101)), (1, .int a1)]) hx hb dX10_costs_66 hl (by decide) rfl (fun ls hl => ?_)
            refine lv_iload_n hx hb dX10_costs_68 rfl (lv_at hl 2 rfl) ?_
            refine lv_iload hx hb dX10_costs_69 (lv_at hl 0 rfl) ?_
            refine lv_iload_n hx hb dX10_costs_71 rfl (lv_at hl 4 rfl) ?_
            refine lv_icmp_ne (tgt := 88) hx hb dX10_costs_72 (by decide) (fun c11 => ?_) (fun c11 => ?_)
            · have h := g_iff c11 h
              refine lv_iconst (v := 0) hx hb dX10_costs_88 (by decide) ?_
              refine lv_iadd hx hb dX10_costs_89 ?_
              refine lv_topi (fun x12 ex12 => ?_)
              have h := g_nm ex12 h
              refine lv_istore_n (lv' := [(2, .int x12), (4, .int x10), (3, .int l4_3), (0, .ref (G.2.2.1 101)), (1, .int a1)]) hx hb dX10_costs_90 rfl hl (by decide) rfl (fun ls hl => ?_)
              obtain ⟨x13, ex13⟩ : ∃ y : Int32, y = l4_3 + 1 := ⟨_, rfl⟩
              have h := g_nm ex13 h
              refine lv_iinc (v := x13) (lv' := [(3, .int x13), (2, .int x12), (4, .int x10), (0, .ref (G.2.2.1 101)), (1, .int a1)]) hx hb dX10_costs_91 hl (k := 2) rfl (by rw [ex13]; rfl) (by decide) rfl (fun ls hl => ?_)
              refine lv_goto (tgt := 19) hx hb dX10_costs_94 (by decide) ?_
              exact ihL4 _ _ _ _ _ _ h hP hS (lv_sub hl [0, 1, 3, 4] rfl)
            · have h := g_ift c11 h
              refine lv_aload_n hx hb dX10_costs_75 rfl (lv_at hl 3 rfl) ?_
              refine g_get hx hb ht hown hE hP (by decide) gE_101 uX10 rfl 0 (by decide) m_790 rfl rfl dX10_costs_76 ?_
              refine lv_sipush (v := 449) hx hb dX10_costs_79 (by decide) ?_
              refine lv_iload_n hx hb dX10_costs_82 rfl (lv_at hl 1 rfl) ?_
              refine lv_iadd hx hb dX10_costs_83 ?_
              obtain ⟨i14, h⟩ := g_ix h
              refine g_iald hx hb hE hP (by decide) rfl (by decide) i14 dX10_costs_84 ?_
              refine lv_goto (tgt := 89) hx hb dX10_costs_85 (by decide) ?_
              refine lv_iadd hx hb dX10_costs_89 ?_
              refine lv_topi (fun x15 ex15 => ?_)
              have h := g_nm ex15 h
              refine lv_istore_n (lv' := [(2, .int x15), (4, .int x10), (3, .int l4_3), (0, .ref (G.2.2.1 101)), (1, .int a1)]) hx hb dX10_costs_90 rfl hl (by decide) rfl (fun ls hl => ?_)
              obtain ⟨x16, ex16⟩ : ∃ y : Int32, y = l4_3 + 1 := ⟨_, rfl⟩
              have h := g_nm ex16 h
              refine lv_iinc (v := x16) (lv' := [(3, .int x16), (2, .int x15), (4, .int x10), (0, .ref (G.2.2.1 101)), (1, .int a1)]) hx hb dX10_costs_91 hl (k := 2) rfl (by rw [ex16]; rfl) (by decide) rfl (fun ls hl => ?_)
              refine lv_goto (tgt := 19) hx hb dX10_costs_94 (by decide) ?_
              exact ihL4 _ _ _ _ _ _ h hP hS (lv_sub hl [0, 1, 3, 4] rfl)
          · have h := g_ift c8 h
            refine lv_aload_n hx hb dX10_costs_43 rfl (lv_at hl 2 rfl) ?_
            refine g_get hx hb ht hown hE hP (by decide) gE_101 uX10 rfl 0 (by decide) m_790 rfl rfl dX10_costs_44 ?_
            refine lv_sipush (v := 389) hx hb dX10_costs_47 (by decide) ?_
            refine lv_iload_n hx hb dX10_costs_50 rfl (lv_at hl 0 rfl) ?_
            refine lv_iadd hx hb dX10_costs_51 ?_
            obtain ⟨i17, h⟩ := g_ix h
            refine g_iald hx hb hE hP (by decide) rfl (by decide) i17 dX10_costs_52 ?_
            refine lv_goto (tgt := 66) hx hb dX10_costs_53 (by decide) ?_
            refine lv_topi (fun x18 ex18 => ?_)
            have h := g_nm ex18 h
            refine lv_istore (lv' := [(4, .int x18), (3, .int l4_3), (2, .int l4_2), (0, .ref (G.2.2.1 101)), (1, .int a1)]) hx hb dX10_costs_66 hl (by decide) rfl (fun ls hl => ?_)
            refine lv_iload_n hx hb dX10_costs_68 rfl (lv_at hl 2 rfl) ?_
            refine lv_iload hx hb dX10_costs_69 (lv_at hl 0 rfl) ?_
            refine lv_iload_n hx hb dX10_costs_71 rfl (lv_at hl 4 rfl) ?_
            refine lv_icmp_ne (tgt := 88) hx hb dX10_costs_72 (by decide) (fun c19 => ?_) (fun c19 => ?_)
            · have h := g_iff c19 h
              refine lv_iconst (v := 0) hx hb dX10_costs_88 (by decide) ?_
              refine lv_iadd hx hb dX10_costs_89 ?_
              refine lv_topi (fun x20 ex20 => ?_)
              have h := g_nm ex20 h
              refine lv_istore_n (lv' := [(2, .int x20), (4, .int x18), (3, .int l4_3), (0, .ref (G.2.2.1 101)), (1, .int a1)]) hx hb dX10_costs_90 rfl hl (by decide) rfl (fun ls hl => ?_)
              obtain ⟨x21, ex21⟩ : ∃ y : Int32, y = l4_3 + 1 := ⟨_, rfl⟩
              have h := g_nm ex21 h
              refine lv_iinc (v := x21) (lv' := [(3, .int x21), (2, .int x20), (4, .int x18), (0, .ref (G.2.2.1 101)), (1, .int a1)]) hx hb dX10_costs_91 hl (k := 2) rfl (by rw [ex21]; rfl) (by decide) rfl (fun ls hl => ?_)
              refine lv_goto (tgt := 19) hx hb dX10_costs_94 (by decide) ?_
              exact ihL4 _ _ _ _ _ _ h hP hS (lv_sub hl [0, 1, 3, 4] rfl)
            · have h := g_ift c19 h
              refine lv_aload_n hx hb dX10_costs_75 rfl (lv_at hl 3 rfl) ?_
              refine g_get hx hb ht hown hE hP (by decide) gE_101 uX10 rfl 0 (by decide) m_790 rfl rfl dX10_costs_76 ?_
              refine lv_sipush (v := 449) hx hb dX10_costs_79 (by decide) ?_
              refine lv_iload_n hx hb dX10_costs_82 rfl (lv_at hl 1 rfl) ?_
              refine lv_iadd hx hb dX10_costs_83 ?_
              obtain ⟨i22, h⟩ := g_ix h
              refine g_iald hx hb hE hP (by decide) rfl (by decide) i22 dX10_costs_84 ?_
              refine lv_goto (tgt := 89) hx hb dX10_costs_85 (by decide) ?_
              refine lv_iadd hx hb dX10_costs_89 ?_
              refine lv_topi (fun x23 ex23 => ?_)
              have h := g_nm ex23 h
              refine lv_istore_n (lv' := [(2, .int x23), (4, .int x18), (3, .int l4_3), (0, .ref (G.2.2.1 101)), (1, .int a1)]) hx hb dX10_costs_90 rfl hl (by decide) rfl (fun ls hl => ?_)
              obtain ⟨x24, ex24⟩ : ∃ y : Int32, y = l4_3 + 1 := ⟨_, rfl⟩
              have h := g_nm ex24 h
              refine lv_iinc (v := x24) (lv' := [(3, .int x24), (2, .int x23), (4, .int x18), (0, .ref (G.2.2.1 101)), (1, .int a1)]) hx hb dX10_costs_91 hl (k := 2) rfl (by rw [ex24]; rfl) (by decide) rfl (fun ls hl => ?_)
              refine lv_goto (tgt := 19) hx hb dX10_costs_94 (by decide) ?_
              exact ihL4 _ _ _ _ _ _ h hP hS (lv_sub hl [0, 1, 3, 4] rfl)
    refine LPL4 _ (fun z25 z26 σ27 H locs ls h hP hS hl => ?_) gFu _ _ _ _ _ _ h hP hS (lv_sub hl [0, 1, 2, 3] rfl)
    refine lv_iload_n hx hb dX10_costs_97 rfl (lv_at hl 1 rfl) ?_
    exact g_iret hx hb hr hlk hE hP hS h dX10_costs_98
  · have h := g_ift c3 h
    refine lv_aload_n hx hb dX10_costs_8 rfl (lv_at hl 0 rfl) ?_
    refine lv_ldc hx hb hown (ht _ m_837) dX10_costs_9 ?_
    obtain ⟨r29, σ28, hcr29, h⟩ := g_bd h
    refine g_callV (As := [.int (-100001)]) (n := 1) hx hb hml hown ht (c_X10_finding l G _ _ hcr29) m_838 m_840 m_14 m_41 m_841 (by decide +kernel) (by decide) gE_101 rfl hE hP hS (fun _ h => h) (fun _ _ h => h) rfl hl.1 rfl (Nat.le_of_ble_eq_true rfl) dX10_costs_11 ⟨by decide, by decide⟩ ⟨Nat.zero_le _, Nat.zero_le _⟩ (fun H locs hP hS => ?_)
    exact g_iret hx hb hr hlk hE hP hS h dX10_costs_14

def M_X10_set (a1 a2 : Int32) (σ : gSt) : gO :=
  gBd (M_X10_within a1 0 1 σ) (fun r2 σ1 => if r2 = 0 then (gBd (M_X10_finding (-100001) σ1) (fun r5 σ4 => some (r5, σ4))) else (if a1 = 0 then (if a1 = 0 then (gBd (M_X10_within a2 0 999 σ1) (fun r37 σ36 => if r37 = 0 then (gBd (M_X10_finding (-100001) σ36) (fun r44 σ43 => some (r44, σ43))) else (gIx 549 ((5 : Int32) + a1) (gNm ((σ36 102 ((5 : Int32) + a1).toNatClampNeg) : Int32) (fun x40 => gIx 549 ((5 : Int32) + a1) (gNm (gUp σ36 102 ((5 : Int32) + a1).toNatClampNeg a2) (fun σ42 => some (x40, σ42)))))))) else (gBd (M_X10_within a2 0 20 σ1) (fun r28 σ27 => if r28 = 0 then (gBd (M_X10_finding (-100001) σ27) (fun r35 σ34 => some (r35, σ34))) else (gIx 549 ((5 : Int32) + a1) (gNm ((σ27 102 ((5 : Int32) + a1).toNatClampNeg) : Int32) (fun x31 => gIx 549 ((5 : Int32) + a1) (gNm (gUp σ27 102 ((5 : Int32) + a1).toNatClampNeg a2) (fun σ33 => some (x31, σ33))))))))) else (if a1 = 0 then (gBd (M_X10_within a2 1 999 σ1) (fun r18 σ17 => if r18 = 0 then (gBd (M_X10_finding (-100001) σ17) (fun r25 σ24 => some (r25, σ24))) else (gIx 549 ((5 : Int32) + a1) (gNm ((σ17 102 ((5 : Int32) + a1).toNatClampNeg) : Int32) (fun x21 => gIx 549 ((5 : Int32) + a1) (gNm (gUp σ17 102 ((5 : Int32) + a1).toNatClampNeg a2) (fun σ23 => some (x21, σ23)))))))) else (gBd (M_X10_within a2 1 20 σ1) (fun r9 σ8 => if r9 = 0 then (gBd (M_X10_finding (-100001) σ8) (fun r16 σ15 => some (r16, σ15))) else (gIx 549 ((5 : Int32) + a1) (gNm ((σ8 102 ((5 : Int32) + a1).toNatClampNeg) : Int32) (fun x12 => gIx 549 ((5 : Int32) + a1) (gNm (gUp σ8 102 ((5 : Int32) + a1).toNatClampNeg a2) (fun σ14 => some (x12, σ14)))))))))))
set_option maxHeartbeats 4000000 in
set_option maxRecDepth 100000 in
theorem c_X10_set (l : Launch) (G : gPar) (a1 a2 : Int32) (σ : gSt) {r : Int32} {σ' : gSt} (h : M_X10_set a1 a2 σ = some (r, σ')) : gC l G yX10_set cX10_set 4 (some .int) 1 22 [.ref (G.2.2.1 101), .int a1, .int a2] σ r σ' := by
  refine gC_of (by decide) (Nat.le_of_ble_eq_true rfl) ?_
  intro p e s m below meth c hx hb hr ht hown hlk hml hE hP ls hl
  have hS : va_S (gA G) s.heap s.heap [] := va_S.rf
  have hl : lv_has ls 4 [(0, .ref (G.2.2.1 101)), (1, .int a1), (2, .int a2)] := hl
  unfold M_X10_set at h
  refine lv_iload_n hx hb dX10_set_0 rfl (lv_at hl 1 rfl) ?_
  refine lv_iconst (v := 0) hx hb dX10_set_1 (by decide) ?_
  refine lv_iconst (v := 1) hx hb dX10_set_2 (by decide) ?_
  obtain ⟨r2, σ1, hcr2, h⟩ := g_bd h
  refine g_callS (As := [.int a1, .int 0, .int 1]) (n := 3) hx hb hml hown ht (c_X10_within l G _ _ _ _ hcr2) m_834 m_835 m_41 m_836 (by decide +kernel) hE hP hS (fun _ h => h) (fun _ _ h => h) rfl hl.1 rfl (Nat.le_of_ble_eq_true rfl) dX10_set_3 ⟨by decide, by decide⟩ ⟨Nat.zero_le _, Nat.zero_le _⟩ (fun H locs hP hS => ?_)
  refine lv_if_eq (tgt := 37) hx hb dX10_set_6 (by decide) (fun c3 => ?_) (fun c3 => ?_)
  · have h := g_ift c3 h
    refine lv_aload_n hx hb dX10_set_37 rfl (lv_at hl 0 rfl) ?_
    refine lv_ldc hx hb hown (ht _ m_837) dX10_set_38 ?_
    obtain ⟨r5, σ4, hcr5, h⟩ := g_bd h
    refine g_callV (As := [.int (-100001)]) (n := 1) hx hb hml hown ht (c_X10_finding l G _ _ hcr5) m_838 m_840 m_14 m_41 m_841 (by decide +kernel) (by decide) gE_101 rfl hE hP hS (fun _ h => h) (fun _ _ h => h) rfl hl.1 rfl (Nat.le_of_ble_eq_true rfl) dX10_set_40 ⟨by decide, by decide⟩ ⟨Nat.zero_le _, Nat.zero_le _⟩ (fun H locs hP hS => ?_)
    exact g_iret hx hb hr hlk hE hP hS h dX10_set_43
  · have h := g_iff c3 h
    refine lv_iload_n hx hb dX10_set_9 rfl (lv_at hl 2 rfl) ?_
    refine lv_iload_n hx hb dX10_set_10 rfl (lv_at hl 1 rfl) ?_
    refine lv_if_ne (tgt := 18) hx hb dX10_set_11 (by decide) (fun c6 => ?_) (fun c6 => ?_)
    · have h := g_iff c6 h
      refine lv_iconst (v := 1) hx hb dX10_set_18 (by decide) ?_
      refine lv_iload_n hx hb dX10_set_19 rfl (lv_at hl 1 rfl) ?_
      refine lv_if_ne (tgt := 29) hx hb dX10_set_20 (by decide) (fun c7 => ?_) (fun c7 => ?_)
      · have h := g_iff c7 h
        refine lv_bipush (v := 20) hx hb dX10_set_29 (by decide) ?_
        obtain ⟨r9, σ8, hcr9, h⟩ := g_bd h
        refine g_callS (As := [.int a2, .int 1, .int 20]) (n := 3) hx hb hml hown ht (c_X10_within l G _ _ _ _ hcr9) m_834 m_835 m_41 m_836 (by decide +kernel) hE hP hS (fun _ h => h) (fun _ _ h => h) rfl hl.1 rfl (Nat.le_of_ble_eq_true rfl) dX10_set_31 ⟨by decide, by decide⟩ ⟨Nat.zero_le _, Nat.zero_le _⟩ (fun H locs hP hS => ?_)
        refine lv_if_ne (tgt := 44) hx hb dX10_set_34 (by decide) (fun c10 => ?_) (fun c10 => ?_)
        · have h := g_iff c10 h
          refine lv_aload_n hx hb dX10_set_44 rfl (lv_at hl 0 rfl) ?_
          refine g_get hx hb ht hown hE hP (by decide) gE_101 uX10 rfl 0 (by decide) m_790 rfl rfl dX10_set_45 ?_
          refine lv_iconst (v := 5) hx hb dX10_set_48 (by decide) ?_
          refine lv_iload_n hx hb dX10_set_49 rfl (lv_at hl 1 rfl) ?_
          refine lv_iadd hx hb dX10_set_50 ?_
          obtain ⟨i11, h⟩ := g_ix h
          refine g_iald hx hb hE hP (by decide) rfl (by decide) i11 dX10_set_51 ?_
          refine lv_topi (fun x12 ex12 => ?_)
          have h := g_nm ex12 h
          refine lv_istore_n (lv' := [(3, .int x12), (0, .ref (G.2.2.1 101)), (1, .int a1), (2, .int a2)]) hx hb dX10_set_52 rfl hl (by decide) rfl (fun ls hl => ?_)
          refine lv_aload_n hx hb dX10_set_53 rfl (lv_at hl 1 rfl) ?_
          refine g_get hx hb ht hown hE hP (by decide) gE_101 uX10 rfl 0 (by decide) m_790 rfl rfl dX10_set_54 ?_
          refine lv_iconst (v := 5) hx hb dX10_set_57 (by decide) ?_
          refine lv_iload_n hx hb dX10_set_58 rfl (lv_at hl 2 rfl) ?_
          refine lv_iadd hx hb dX10_set_59 ?_
          refine lv_iload_n hx hb dX10_set_60 rfl (lv_at hl 3 rfl) ?_
          obtain ⟨i13, h⟩ := g_ix h
          refine g_iast hx hb hE hP hS (by decide) rfl (by decide) i13 dX10_set_61 (fun H locs σ14 eσ14 hP hS => ?_)
          have h := g_nm eσ14 h
          refine lv_iload_n hx hb dX10_set_62 rfl (lv_at hl 0 rfl) ?_
          exact g_iret hx hb hr hlk hE hP hS h dX10_set_63
        · have h := g_ift c10 h
          refine lv_aload_n hx hb dX10_set_37 rfl (lv_at hl 0 rfl) ?_
          refine lv_ldc hx hb hown (ht _ m_837) dX10_set_38 ?_
          obtain ⟨r16, σ15, hcr16, h⟩ := g_bd h
          refine g_callV (As := [.int (-100001)]) (n := 1) hx hb hml hown ht (c_X10_finding l G _ _ hcr16) m_838 m_840 m_14 m_41 m_841 (by decide +kernel) (by decide) gE_101 rfl hE hP hS (fun _ h => h) (fun _ _ h => h) rfl hl.1 rfl (Nat.le_of_ble_eq_true rfl) dX10_set_40 ⟨by decide, by decide⟩ ⟨Nat.zero_le _, Nat.zero_le _⟩ (fun H locs hP hS => ?_)
          exact g_iret hx hb hr hlk hE hP hS h dX10_set_43
      · have h := g_ift c7 h
        refine lv_sipush (v := 999) hx hb dX10_set_23 (by decide) ?_
        refine lv_goto (tgt := 31) hx hb dX10_set_26 (by decide) ?_
        obtain ⟨r18, σ17, hcr18, h⟩ := g_bd h
        refine g_callS (As := [.int a2, .int 1, .int 999]) (n := 3) hx hb hml hown ht (c_X10_within l G _ _ _ _ hcr18) m_834 m_835 m_41 m_836 (by decide +kernel) hE hP hS (fun _ h => h) (fun _ _ h => h) rfl hl.1 rfl (Nat.le_of_ble_eq_true rfl) dX10_set_31 ⟨by decide, by decide⟩ ⟨Nat.zero_le _, Nat.zero_le _⟩ (fun H locs hP hS => ?_)
        refine lv_if_ne (tgt := 44) hx hb dX10_set_34 (by decide) (fun c19 => ?_) (fun c19 => ?_)
        · have h := g_iff c19 h
          refine lv_aload_n hx hb dX10_set_44 rfl (lv_at hl 0 rfl) ?_
          refine g_get hx hb ht hown hE hP (by decide) gE_101 uX10 rfl 0 (by decide) m_790 rfl rfl dX10_set_45 ?_
          refine lv_iconst (v := 5) hx hb dX10_set_48 (by decide) ?_
          refine lv_iload_n hx hb dX10_set_49 rfl (lv_at hl 1 rfl) ?_
          refine lv_iadd hx hb dX10_set_50 ?_
          obtain ⟨i20, h⟩ := g_ix h
          refine g_iald hx hb hE hP (by decide) rfl (by decide) i20 dX10_set_51 ?_
          refine lv_topi (fun x21 ex21 => ?_)
          have h := g_nm ex21 h
          refine lv_istore_n (lv' := [(3, .int x21), (0, .ref (G.2.2.1 101)), (1, .int a1), (2, .int a2)]) hx hb dX10_set_52 rfl hl (by decide) rfl (fun ls hl => ?_)
          refine lv_aload_n hx hb dX10_set_53 rfl (lv_at hl 1 rfl) ?_
          refine g_get hx hb ht hown hE hP (by decide) gE_101 uX10 rfl 0 (by decide) m_790 rfl rfl dX10_set_54 ?_
          refine lv_iconst (v := 5) hx hb dX10_set_57 (by decide) ?_
          refine lv_iload_n hx hb dX10_set_58 rfl (lv_at hl 2 rfl) ?_
          refine lv_iadd hx hb dX10_set_59 ?_
          refine lv_iload_n hx hb dX10_set_60 rfl (lv_at hl 3 rfl) ?_
          obtain ⟨i22, h⟩ := g_ix h
          refine g_iast hx hb hE hP hS (by decide) rfl (by decide) i22 dX10_set_61 (fun H locs σ23 eσ23 hP hS => ?_)
          have h := g_nm eσ23 h
          refine lv_iload_n hx hb dX10_set_62 rfl (lv_at hl 0 rfl) ?_
          exact g_iret hx hb hr hlk hE hP hS h dX10_set_63
        · have h := g_ift c19 h
          refine lv_aload_n hx hb dX10_set_37 rfl (lv_at hl 0 rfl) ?_
          refine lv_ldc hx hb hown (ht _ m_837) dX10_set_38 ?_
          obtain ⟨r25, σ24, hcr25, h⟩ := g_bd h
          refine g_callV (As := [.int (-100001)]) (n := 1) hx hb hml hown ht (c_X10_finding l G _ _ hcr25) m_838 m_840 m_14 m_41 m_841 (by decide +kernel) (by decide) gE_101 rfl hE hP hS (fun _ h => h) (fun _ _ h => h) rfl hl.1 rfl (Nat.le_of_ble_eq_true rfl) dX10_set_40 ⟨by decide, by decide⟩ ⟨Nat.zero_le _, Nat.zero_le _⟩ (fun H locs hP hS => ?_)
          exact g_iret hx hb hr hlk hE hP hS h dX10_set_43
    · have h := g_ift c6 h
      refine lv_iconst (v := 0) hx hb dX10_set_14 (by decide) ?_
      refine lv_goto (tgt := 19) hx hb dX10_set_15 (by decide) ?_
      refine lv_iload_n hx hb dX10_set_19 rfl (lv_at hl 1 rfl) ?_
      refine lv_if_ne (tgt := 29) hx hb dX10_set_20 (by decide) (fun c26 => ?_) (fun c26 => ?_)
      · have h := g_iff c26 h
        refine lv_bipush (v := 20) hx hb dX10_set_29 (by decide) ?_
        obtain ⟨r28, σ27, hcr28, h⟩ := g_bd h
        refine g_callS (As := [.int a2, .int 0, .int 20]) (n := 3) hx hb hml hown ht (c_X10_within l G _ _ _ _ hcr28) m_834 m_835 m_41 m_836 (by decide +kernel) hE hP hS (fun _ h => h) (fun _ _ h => h) rfl hl.1 rfl (Nat.le_of_ble_eq_true rfl) dX10_set_31 ⟨by decide, by decide⟩ ⟨Nat.zero_le _, Nat.zero_le _⟩ (fun H locs hP hS => ?_)
        refine lv_if_ne (tgt := 44) hx hb dX10_set_34 (by decide) (fun c29 => ?_) (fun c29 => ?_)
        · have h := g_iff c29 h
          refine lv_aload_n hx hb dX10_set_44 rfl (lv_at hl 0 rfl) ?_
          refine g_get hx hb ht hown hE hP (by decide) gE_101 uX10 rfl 0 (by decide) m_790 rfl rfl dX10_set_45 ?_
          refine lv_iconst (v := 5) hx hb dX10_set_48 (by decide) ?_
          refine lv_iload_n hx hb dX10_set_49 rfl (lv_at hl 1 rfl) ?_
          refine lv_iadd hx hb dX10_set_50 ?_
          obtain ⟨i30, h⟩ := g_ix h
          refine g_iald hx hb hE hP (by decide) rfl (by decide) i30 dX10_set_51 ?_
          refine lv_topi (fun x31 ex31 => ?_)
          have h := g_nm ex31 h
          refine lv_istore_n (lv' := [(3, .int x31), (0, .ref (G.2.2.1 101)), (1, .int a1), (2, .int a2)]) hx hb dX10_set_52 rfl hl (by decide) rfl (fun ls hl => ?_)
          refine lv_aload_n hx hb dX10_set_53 rfl (lv_at hl 1 rfl) ?_
          refine g_get hx hb ht hown hE hP (by decide) gE_101 uX10 rfl 0 (by decide) m_790 rfl rfl dX10_set_54 ?_
          refine lv_iconst (v := 5) hx hb dX10_set_57 (by decide) ?_
          refine lv_iload_n hx hb dX10_set_58 rfl (lv_at hl 2 rfl) ?_
          refine lv_iadd hx hb dX10_set_59 ?_
          refine lv_iload_n hx hb dX10_set_60 rfl (lv_at hl 3 rfl) ?_
          obtain ⟨i32, h⟩ := g_ix h
          refine g_iast hx hb hE hP hS (by decide) rfl (by decide) i32 dX10_set_61 (fun H locs σ33 eσ33 hP hS => ?_)
          have h := g_nm eσ33 h
          refine lv_iload_n hx hb dX10_set_62 rfl (lv_at hl 0 rfl) ?_
          exact g_iret hx hb hr hlk hE hP hS h dX10_set_63
        · have h := g_ift c29 h
          refine lv_aload_n hx hb dX10_set_37 rfl (lv_at hl 0 rfl) ?_
          refine lv_ldc hx hb hown (ht _ m_837) dX10_set_38 ?_
          obtain ⟨r35, σ34, hcr35, h⟩ := g_bd h
          refine g_callV (As := [.int (-100001)]) (n := 1) hx hb hml hown ht (c_X10_finding l G _ _ hcr35) m_838 m_840 m_14 m_41 m_841 (by decide +kernel) (by decide) gE_101 rfl hE hP hS (fun _ h => h) (fun _ _ h => h) rfl hl.1 rfl (Nat.le_of_ble_eq_true rfl) dX10_set_40 ⟨by decide, by decide⟩ ⟨Nat.zero_le _, Nat.zero_le _⟩ (fun H locs hP hS => ?_)
          exact g_iret hx hb hr hlk hE hP hS h dX10_set_43
      · have h := g_ift c26 h
        refine lv_sipush (v := 999) hx hb dX10_set_23 (by decide) ?_
        refine lv_goto (tgt := 31) hx hb dX10_set_26 (by decide) ?_
        obtain ⟨r37, σ36, hcr37, h⟩ := g_bd h
        refine g_callS (As := [.int a2, .int 0, .int 999]) (n := 3) hx hb hml hown ht (c_X10_within l G _ _ _ _ hcr37) m_834 m_835 m_41 m_836 (by decide +kernel) hE hP hS (fun _ h => h) (fun _ _ h => h) rfl hl.1 rfl (Nat.le_of_ble_eq_true rfl) dX10_set_31 ⟨by decide, by decide⟩ ⟨Nat.zero_le _, Nat.zero_le _⟩ (fun H locs hP hS => ?_)
        refine lv_if_ne (tgt := 44) hx hb dX10_set_34 (by decide) (fun c38 => ?_) (fun c38 => ?_)
        · have h := g_iff c38 h
          refine lv_aload_n hx hb dX10_set_44 rfl (lv_at hl 0 rfl) ?_
          refine g_get hx hb ht hown hE hP (by decide) gE_101 uX10 rfl 0 (by decide) m_790 rfl rfl dX10_set_45 ?_
          refine lv_iconst (v := 5) hx hb dX10_set_48 (by decide) ?_
          refine lv_iload_n hx hb dX10_set_49 rfl (lv_at hl 1 rfl) ?_
          refine lv_iadd hx hb dX10_set_50 ?_
          obtain ⟨i39, h⟩ := g_ix h
          refine g_iald hx hb hE hP (by decide) rfl (by decide) i39 dX10_set_51 ?_
          refine lv_topi (fun x40 ex40 => ?_)
          have h := g_nm ex40 h
          refine lv_istore_n (lv' := [(3, .int x40), (0, .ref (G.2.2.1 101)), (1, .int a1), (2, .int a2)]) hx hb dX10_set_52 rfl hl (by decide) rfl (fun ls hl => ?_)
          refine lv_aload_n hx hb dX10_set_53 rfl (lv_at hl 1 rfl) ?_
          refine g_get hx hb ht hown hE hP (by decide) gE_101 uX10 rfl 0 (by decide) m_790 rfl rfl dX10_set_54 ?_
          refine lv_iconst (v := 5) hx hb dX10_set_57 (by decide) ?_
          refine lv_iload_n hx hb dX10_set_58 rfl (lv_at hl 2 rfl) ?_
          refine lv_iadd hx hb dX10_set_59 ?_
          refine lv_iload_n hx hb dX10_set_60 rfl (lv_at hl 3 rfl) ?_
          obtain ⟨i41, h⟩ := g_ix h
          refine g_iast hx hb hE hP hS (by decide) rfl (by decide) i41 dX10_set_61 (fun H locs σ42 eσ42 hP hS => ?_)
          have h := g_nm eσ42 h
          refine lv_iload_n hx hb dX10_set_62 rfl (lv_at hl 0 rfl) ?_
          exact g_iret hx hb hr hlk hE hP hS h dX10_set_63
        · have h := g_ift c38 h
          refine lv_aload_n hx hb dX10_set_37 rfl (lv_at hl 0 rfl) ?_
          refine lv_ldc hx hb hown (ht _ m_837) dX10_set_38 ?_
          obtain ⟨r44, σ43, hcr44, h⟩ := g_bd h
          refine g_callV (As := [.int (-100001)]) (n := 1) hx hb hml hown ht (c_X10_finding l G _ _ hcr44) m_838 m_840 m_14 m_41 m_841 (by decide +kernel) (by decide) gE_101 rfl hE hP hS (fun _ h => h) (fun _ _ h => h) rfl hl.1 rfl (Nat.le_of_ble_eq_true rfl) dX10_set_40 ⟨by decide, by decide⟩ ⟨Nat.zero_le _, Nat.zero_le _⟩ (fun H locs hP hS => ?_)
          exact g_iret hx hb hr hlk hE hP hS h dX10_set_43

def M_X10_list (a1 a2 a3 : Int32) (σ : gSt) : gO :=
  gBd (M_X10_isPerson a1 σ) (fun r2 σ1 => if r2 = 0 then (gBd (M_X10_finding (-100001) σ1) (fun r5 σ4 => some (r5, σ4))) else (if a2 = (-1) then (gIx 549 ((99 : Int32) + a1) (gNm ((σ1 102 ((99 : Int32) + a1).toNatClampNeg) : Int32) (fun x8 => gIx 549 ((99 : Int32) + a1) (gNm (gUp σ1 102 ((99 : Int32) + a1).toNatClampNeg a2) (fun σ10 => if 0 ≤ a2 then (gIx 549 ((109 : Int32) + a1) (gNm (gUp σ10 102 ((109 : Int32) + a1).toNatClampNeg a3) (fun σ13 => some (x8, σ13)))) else (gIx 549 ((109 : Int32) + a1) (gNm (gUp σ10 102 ((109 : Int32) + a1).toNatClampNeg 0) (fun σ15 => some (x8, σ15))))))))) else (gBd (M_X10_isParish a2 σ1) (fun r17 σ16 => if r17 = 0 then (gBd (M_X10_finding (-100001) σ16) (fun r20 σ19 => some (r20, σ19))) else (gBd (M_X10_isWeek a3 σ16) (fun r22 σ21 => if r22 = 0 then (gBd (M_X10_finding (-100001) σ21) (fun r34 σ33 => some (r34, σ33))) else (gIx 549 ((99 : Int32) + a1) (gNm ((σ21 102 ((99 : Int32) + a1).toNatClampNeg) : Int32) (fun x25 => gIx 549 ((99 : Int32) + a1) (gNm (gUp σ21 102 ((99 : Int32) + a1).toNatClampNeg a2) (fun σ27 => if 0 ≤ a2 then (gIx 549 ((109 : Int32) + a1) (gNm (gUp σ27 102 ((109 : Int32) + a1).toNatClampNeg a3) (fun σ30 => some (x25, σ30)))) else (gIx 549 ((109 : Int32) + a1) (gNm (gUp σ27 102 ((109 : Int32) + a1).toNatClampNeg 0) (fun σ32 => some (x25, σ32)))))))))))))))
set_option maxHeartbeats 4000000 in
set_option maxRecDepth 100000 in
theorem c_X10_list (l : Launch) (G : gPar) (a1 a2 a3 : Int32) (σ : gSt) {r : Int32} {σ' : gSt} (h : M_X10_list a1 a2 a3 σ = some (r, σ')) : gC l G yX10_list cX10_list 5 (some .int) 2 43 [.ref (G.2.2.1 101), .int a1, .int a2, .int a3] σ r σ' := by
  refine gC_of (by decide) (Nat.le_of_ble_eq_true rfl) ?_
  intro p e s m below meth c hx hb hr ht hown hlk hml hE hP ls hl
  have hS : va_S (gA G) s.heap s.heap [] := va_S.rf
  have hl : lv_has ls 5 [(0, .ref (G.2.2.1 101)), (1, .int a1), (2, .int a2), (3, .int a3)] := hl
  unfold M_X10_list at h
  refine lv_aload_n hx hb dX10_list_0 rfl (lv_at hl 0 rfl) ?_
  refine lv_iload_n hx hb dX10_list_1 rfl (lv_at hl 1 rfl) ?_
  obtain ⟨r2, σ1, hcr2, h⟩ := g_bd h
  refine g_callV (As := [.int a1]) (n := 1) hx hb hml hown ht (c_X10_isPerson l G _ _ hcr2) m_863 m_865 m_16 m_41 m_866 (by decide +kernel) (by decide) gE_101 rfl hE hP hS (fun _ h => h) (fun _ _ h => h) rfl hl.1 rfl (Nat.le_of_ble_eq_true rfl) dX10_list_2 ⟨by decide, by decide⟩ ⟨Nat.zero_le _, Nat.zero_le _⟩ (fun H locs hP hS => ?_)
  refine lv_if_eq (tgt := 28) hx hb dX10_list_5 (by decide) (fun c3 => ?_) (fun c3 => ?_)
  · have h := g_ift c3 h
    refine lv_aload_n hx hb dX10_list_28 rfl (lv_at hl 0 rfl) ?_
    refine lv_ldc hx hb hown (ht _ m_837) dX10_list_29 ?_
    obtain ⟨r5, σ4, hcr5, h⟩ := g_bd h
    refine g_callV (As := [.int (-100001)]) (n := 1) hx hb hml hown ht (c_X10_finding l G _ _ hcr5) m_838 m_840 m_14 m_41 m_841 (by decide +kernel) (by decide) gE_101 rfl hE hP hS (fun _ h => h) (fun _ _ h => h) rfl hl.1 rfl (Nat.le_of_ble_eq_true rfl) dX10_list_31 ⟨by decide, by decide⟩ ⟨Nat.zero_le _, Nat.zero_le _⟩ (fun H locs hP hS => ?_)
    exact g_iret hx hb hr hlk hE hP hS h dX10_list_34
  · have h := g_iff c3 h
    refine lv_iload_n hx hb dX10_list_8 rfl (lv_at hl 2 rfl) ?_
    refine lv_iconst (v := (-1)) hx hb dX10_list_9 (by decide) ?_
    refine lv_icmp_eq (tgt := 35) hx hb dX10_list_10 (by decide) (fun c6 => ?_) (fun c6 => ?_)
    · have h := g_ift c6 h
      refine lv_aload_n hx hb dX10_list_35 rfl (lv_at hl 0 rfl) ?_
      refine g_get hx hb ht hown hE hP (by decide) gE_101 uX10 rfl 0 (by decide) m_790 rfl rfl dX10_list_36 ?_
      refine lv_bipush (v := 99) hx hb dX10_list_39 (by decide) ?_
      refine lv_iload_n hx hb dX10_list_41 rfl (lv_at hl 1 rfl) ?_
      refine lv_iadd hx hb dX10_list_42 ?_
      obtain ⟨i7, h⟩ := g_ix h
      refine g_iald hx hb hE hP (by decide) rfl (by decide) i7 dX10_list_43 ?_
      refine lv_topi (fun x8 ex8 => ?_)
      have h := g_nm ex8 h
      refine lv_istore (lv' := [(4, .int x8), (0, .ref (G.2.2.1 101)), (1, .int a1), (2, .int a2), (3, .int a3)]) hx hb dX10_list_44 hl (by decide) rfl (fun ls hl => ?_)
      refine lv_aload_n hx hb dX10_list_46 rfl (lv_at hl 1 rfl) ?_
      refine g_get hx hb ht hown hE hP (by decide) gE_101 uX10 rfl 0 (by decide) m_790 rfl rfl dX10_list_47 ?_
      refine lv_bipush (v := 99) hx hb dX10_list_50 (by decide) ?_
      refine lv_iload_n hx hb dX10_list_52 rfl (lv_at hl 2 rfl) ?_
      refine lv_iadd hx hb dX10_list_53 ?_
      refine lv_iload_n hx hb dX10_list_54 rfl (lv_at hl 3 rfl) ?_
      obtain ⟨i9, h⟩ := g_ix h
      refine g_iast hx hb hE hP hS (by decide) rfl (by decide) i9 dX10_list_55 (fun H locs σ10 eσ10 hP hS => ?_)
      have h := g_nm eσ10 h
      refine lv_aload_n hx hb dX10_list_56 rfl (lv_at hl 1 rfl) ?_
      refine g_get hx hb ht hown hE hP (by decide) gE_101 uX10 rfl 0 (by decide) m_790 rfl rfl dX10_list_57 ?_
      refine lv_bipush (v := 109) hx hb dX10_list_60 (by decide) ?_
      refine lv_iload_n hx hb dX10_list_62 rfl (lv_at hl 2 rfl) ?_
      refine lv_iadd hx hb dX10_list_63 ?_
      refine lv_iload_n hx hb dX10_list_64 rfl (lv_at hl 3 rfl) ?_
      refine lv_if_ge (tgt := 72) hx hb dX10_list_65 (by decide) (fun c11 => ?_) (fun c11 => ?_)
      · have h := g_ift c11 h
        refine lv_iload_n hx hb dX10_list_72 rfl (lv_at hl 4 rfl) ?_
        obtain ⟨i12, h⟩ := g_ix h
        refine g_iast hx hb hE hP hS (by decide) rfl (by decide) i12 dX10_list_73 (fun H locs σ13 eσ13 hP hS => ?_)
        have h := g_nm eσ13 h
        refine lv_iload hx hb dX10_list_74 (lv_at hl 0 rfl) ?_
        exact g_iret hx hb hr hlk hE hP hS h dX10_list_76
      · have h := g_iff c11 h
        refine lv_iconst (v := 0) hx hb dX10_list_68 (by decide) ?_
        refine lv_goto (tgt := 73) hx hb dX10_list_69 (by decide) ?_
        obtain ⟨i14, h⟩ := g_ix h
        refine g_iast hx hb hE hP hS (by decide) rfl (by decide) i14 dX10_list_73 (fun H locs σ15 eσ15 hP hS => ?_)
        have h := g_nm eσ15 h
        refine lv_iload hx hb dX10_list_74 (lv_at hl 0 rfl) ?_
        exact g_iret hx hb hr hlk hE hP hS h dX10_list_76
    · have h := g_iff c6 h
      refine lv_aload_n hx hb dX10_list_13 rfl (lv_at hl 0 rfl) ?_
      refine lv_iload_n hx hb dX10_list_14 rfl (lv_at hl 2 rfl) ?_
      obtain ⟨r17, σ16, hcr17, h⟩ := g_bd h
      refine g_callV (As := [.int a2]) (n := 1) hx hb hml hown ht (c_X10_isParish l G _ _ hcr17) m_847 m_849 m_15 m_41 m_850 (by decide +kernel) (by decide) gE_101 rfl hE hP hS (fun _ h => h) (fun _ _ h => h) rfl hl.1 rfl (Nat.le_of_ble_eq_true rfl) dX10_list_15 ⟨by decide, by decide⟩ ⟨Nat.zero_le _, Nat.zero_le _⟩ (fun H locs hP hS => ?_)
      refine lv_if_eq (tgt := 28) hx hb dX10_list_18 (by decide) (fun c18 => ?_) (fun c18 => ?_)
      · have h := g_ift c18 h
        refine lv_aload_n hx hb dX10_list_28 rfl (lv_at hl 0 rfl) ?_
        refine lv_ldc hx hb hown (ht _ m_837) dX10_list_29 ?_
        obtain ⟨r20, σ19, hcr20, h⟩ := g_bd h
        refine g_callV (As := [.int (-100001)]) (n := 1) hx hb hml hown ht (c_X10_finding l G _ _ hcr20) m_838 m_840 m_14 m_41 m_841 (by decide +kernel) (by decide) gE_101 rfl hE hP hS (fun _ h => h) (fun _ _ h => h) rfl hl.1 rfl (Nat.le_of_ble_eq_true rfl) dX10_list_31 ⟨by decide, by decide⟩ ⟨Nat.zero_le _, Nat.zero_le _⟩ (fun H locs hP hS => ?_)
        exact g_iret hx hb hr hlk hE hP hS h dX10_list_34
      · have h := g_iff c18 h
        refine lv_iload_n hx hb dX10_list_21 rfl (lv_at hl 3 rfl) ?_
        obtain ⟨r22, σ21, hcr22, h⟩ := g_bd h
        refine g_callS (As := [.int a3]) (n := 1) hx hb hml hown ht (c_X10_isWeek l G _ _ hcr22) m_987 m_988 m_41 m_989 (by decide +kernel) hE hP hS (fun _ h => h) (fun _ _ h => h) rfl hl.1 rfl (Nat.le_of_ble_eq_true rfl) dX10_list_22 ⟨by decide, by decide⟩ ⟨Nat.zero_le _, Nat.zero_le _⟩ (fun H locs hP hS => ?_)
        refine lv_if_ne (tgt := 35) hx hb dX10_list_25 (by decide) (fun c23 => ?_) (fun c23 => ?_)
        · have h := g_iff c23 h
          refine lv_aload_n hx hb dX10_list_35 rfl (lv_at hl 0 rfl) ?_
          refine g_get hx hb ht hown hE hP (by decide) gE_101 uX10 rfl 0 (by decide) m_790 rfl rfl dX10_list_36 ?_
          refine lv_bipush (v := 99) hx hb dX10_list_39 (by decide) ?_
          refine lv_iload_n hx hb dX10_list_41 rfl (lv_at hl 1 rfl) ?_
          refine lv_iadd hx hb dX10_list_42 ?_
          obtain ⟨i24, h⟩ := g_ix h
          refine g_iald hx hb hE hP (by decide) rfl (by decide) i24 dX10_list_43 ?_
          refine lv_topi (fun x25 ex25 => ?_)
          have h := g_nm ex25 h
          refine lv_istore (lv' := [(4, .int x25), (0, .ref (G.2.2.1 101)), (1, .int a1), (2, .int a2), (3, .int a3)]) hx hb dX10_list_44 hl (by decide) rfl (fun ls hl => ?_)
          refine lv_aload_n hx hb dX10_list_46 rfl (lv_at hl 1 rfl) ?_
          refine g_get hx hb ht hown hE hP (by decide) gE_101 uX10 rfl 0 (by decide) m_790 rfl rfl dX10_list_47 ?_
          refine lv_bipush (v := 99) hx hb dX10_list_50 (by decide) ?_
          refine lv_iload_n hx hb dX10_list_52 rfl (lv_at hl 2 rfl) ?_
          refine lv_iadd hx hb dX10_list_53 ?_
          refine lv_iload_n hx hb dX10_list_54 rfl (lv_at hl 3 rfl) ?_
          obtain ⟨i26, h⟩ := g_ix h
          refine g_iast hx hb hE hP hS (by decide) rfl (by decide) i26 dX10_list_55 (fun H locs σ27 eσ27 hP hS => ?_)
          have h := g_nm eσ27 h
          refine lv_aload_n hx hb dX10_list_56 rfl (lv_at hl 1 rfl) ?_
          refine g_get hx hb ht hown hE hP (by decide) gE_101 uX10 rfl 0 (by decide) m_790 rfl rfl dX10_list_57 ?_
          refine lv_bipush (v := 109) hx hb dX10_list_60 (by decide) ?_
          refine lv_iload_n hx hb dX10_list_62 rfl (lv_at hl 2 rfl) ?_
          refine lv_iadd hx hb dX10_list_63 ?_
          refine lv_iload_n hx hb dX10_list_64 rfl (lv_at hl 3 rfl) ?_
          refine lv_if_ge (tgt := 72) hx hb dX10_list_65 (by decide) (fun c28 => ?_) (fun c28 => ?_)
          · have h := g_ift c28 h
            refine lv_iload_n hx hb dX10_list_72 rfl (lv_at hl 4 rfl) ?_
            obtain ⟨i29, h⟩ := g_ix h
            refine g_iast hx hb hE hP hS (by decide) rfl (by decide) i29 dX10_list_73 (fun H locs σ30 eσ30 hP hS => ?_)
            have h := g_nm eσ30 h
            refine lv_iload hx hb dX10_list_74 (lv_at hl 0 rfl) ?_
            exact g_iret hx hb hr hlk hE hP hS h dX10_list_76
          · have h := g_iff c28 h
            refine lv_iconst (v := 0) hx hb dX10_list_68 (by decide) ?_
            refine lv_goto (tgt := 73) hx hb dX10_list_69 (by decide) ?_
            obtain ⟨i31, h⟩ := g_ix h
            refine g_iast hx hb hE hP hS (by decide) rfl (by decide) i31 dX10_list_73 (fun H locs σ32 eσ32 hP hS => ?_)
            have h := g_nm eσ32 h
            refine lv_iload hx hb dX10_list_74 (lv_at hl 0 rfl) ?_
            exact g_iret hx hb hr hlk hE hP hS h dX10_list_76
        · have h := g_ift c23 h
          refine lv_aload_n hx hb dX10_list_28 rfl (lv_at hl 0 rfl) ?_
          refine lv_ldc hx hb hown (ht _ m_837) dX10_list_29 ?_
          obtain ⟨r34, σ33, hcr34, h⟩ := g_bd h
          refine g_callV (As := [.int (-100001)]) (n := 1) hx hb hml hown ht (c_X10_finding l G _ _ hcr34) m_838 m_840 m_14 m_41 m_841 (by decide +kernel) (by decide) gE_101 rfl hE hP hS (fun _ h => h) (fun _ _ h => h) rfl hl.1 rfl (Nat.le_of_ble_eq_true rfl) dX10_list_31 ⟨by decide, by decide⟩ ⟨Nat.zero_le _, Nat.zero_le _⟩ (fun H locs hP hS => ?_)
          exact g_iret hx hb hr hlk hE hP hS h dX10_list_34

def M_X10_earns (a1 a2 : Int32) (σ : gSt) : gO :=
  gBd (M_X10_isPerson a1 σ) (fun r2 σ1 => if r2 = 0 then (gBd (M_X10_finding (-100001) σ1) (fun r5 σ4 => some (r5, σ4))) else (gBd (M_X10_within a2 0 999 σ1) (fun r7 σ6 => if r7 = 0 then (gBd (M_X10_finding (-100001) σ6) (fun r14 σ13 => some (r14, σ13))) else (gIx 549 ((119 : Int32) + a1) (gNm ((σ6 102 ((119 : Int32) + a1).toNatClampNeg) : Int32) (fun x10 => gIx 549 ((119 : Int32) + a1) (gNm (gUp σ6 102 ((119 : Int32) + a1).toNatClampNeg a2) (fun σ12 => some (x10, σ12)))))))))
set_option maxHeartbeats 4000000 in
set_option maxRecDepth 100000 in
theorem c_X10_earns (l : Launch) (G : gPar) (a1 a2 : Int32) (σ : gSt) {r : Int32} {σ' : gSt} (h : M_X10_earns a1 a2 σ = some (r, σ')) : gC l G yX10_earns cX10_earns 4 (some .int) 2 43 [.ref (G.2.2.1 101), .int a1, .int a2] σ r σ' := by
  refine gC_of (by decide) (Nat.le_of_ble_eq_true rfl) ?_
  intro p e s m below meth c hx hb hr ht hown hlk hml hE hP ls hl
  have hS : va_S (gA G) s.heap s.heap [] := va_S.rf
  have hl : lv_has ls 4 [(0, .ref (G.2.2.1 101)), (1, .int a1), (2, .int a2)] := hl
  unfold M_X10_earns at h
  refine lv_aload_n hx hb dX10_earns_0 rfl (lv_at hl 0 rfl) ?_
  refine lv_iload_n hx hb dX10_earns_1 rfl (lv_at hl 1 rfl) ?_
  obtain ⟨r2, σ1, hcr2, h⟩ := g_bd h
  refine g_callV (As := [.int a1]) (n := 1) hx hb hml hown ht (c_X10_isPerson l G _ _ hcr2) m_863 m_865 m_16 m_41 m_866 (by decide +kernel) (by decide) gE_101 rfl hE hP hS (fun _ h => h) (fun _ _ h => h) rfl hl.1 rfl (Nat.le_of_ble_eq_true rfl) dX10_earns_2 ⟨by decide, by decide⟩ ⟨Nat.zero_le _, Nat.zero_le _⟩ (fun H locs hP hS => ?_)
  refine lv_if_eq (tgt := 19) hx hb dX10_earns_5 (by decide) (fun c3 => ?_) (fun c3 => ?_)
  · have h := g_ift c3 h
    refine lv_aload_n hx hb dX10_earns_19 rfl (lv_at hl 0 rfl) ?_
    refine lv_ldc hx hb hown (ht _ m_837) dX10_earns_20 ?_
    obtain ⟨r5, σ4, hcr5, h⟩ := g_bd h
    refine g_callV (As := [.int (-100001)]) (n := 1) hx hb hml hown ht (c_X10_finding l G _ _ hcr5) m_838 m_840 m_14 m_41 m_841 (by decide +kernel) (by decide) gE_101 rfl hE hP hS (fun _ h => h) (fun _ _ h => h) rfl hl.1 rfl (Nat.le_of_ble_eq_true rfl) dX10_earns_22 ⟨by decide, by decide⟩ ⟨Nat.zero_le _, Nat.zero_le _⟩ (fun H locs hP hS => ?_)
    exact g_iret hx hb hr hlk hE hP hS h dX10_earns_25
  · have h := g_iff c3 h
    refine lv_iload_n hx hb dX10_earns_8 rfl (lv_at hl 2 rfl) ?_
    refine lv_iconst (v := 0) hx hb dX10_earns_9 (by decide) ?_
    refine lv_sipush (v := 999) hx hb dX10_earns_10 (by decide) ?_
    obtain ⟨r7, σ6, hcr7, h⟩ := g_bd h
    refine g_callS (As := [.int a2, .int 0, .int 999]) (n := 3) hx hb hml hown ht (c_X10_within l G _ _ _ _ hcr7) m_834 m_835 m_41 m_836 (by decide +kernel) hE hP hS (fun _ h => h) (fun _ _ h => h) rfl hl.1 rfl (Nat.le_of_ble_eq_true rfl) dX10_earns_13 ⟨by decide, by decide⟩ ⟨Nat.zero_le _, Nat.zero_le _⟩ (fun H locs hP hS => ?_)
    refine lv_if_ne (tgt := 26) hx hb dX10_earns_16 (by decide) (fun c8 => ?_) (fun c8 => ?_)
    · have h := g_iff c8 h
      refine lv_aload_n hx hb dX10_earns_26 rfl (lv_at hl 0 rfl) ?_
      refine g_get hx hb ht hown hE hP (by decide) gE_101 uX10 rfl 0 (by decide) m_790 rfl rfl dX10_earns_27 ?_
      refine lv_bipush (v := 119) hx hb dX10_earns_30 (by decide) ?_
      refine lv_iload_n hx hb dX10_earns_32 rfl (lv_at hl 1 rfl) ?_
      refine lv_iadd hx hb dX10_earns_33 ?_
      obtain ⟨i9, h⟩ := g_ix h
      refine g_iald hx hb hE hP (by decide) rfl (by decide) i9 dX10_earns_34 ?_
      refine lv_topi (fun x10 ex10 => ?_)
      have h := g_nm ex10 h
      refine lv_istore_n (lv' := [(3, .int x10), (0, .ref (G.2.2.1 101)), (1, .int a1), (2, .int a2)]) hx hb dX10_earns_35 rfl hl (by decide) rfl (fun ls hl => ?_)
      refine lv_aload_n hx hb dX10_earns_36 rfl (lv_at hl 1 rfl) ?_
      refine g_get hx hb ht hown hE hP (by decide) gE_101 uX10 rfl 0 (by decide) m_790 rfl rfl dX10_earns_37 ?_
      refine lv_bipush (v := 119) hx hb dX10_earns_40 (by decide) ?_
      refine lv_iload_n hx hb dX10_earns_42 rfl (lv_at hl 2 rfl) ?_
      refine lv_iadd hx hb dX10_earns_43 ?_
      refine lv_iload_n hx hb dX10_earns_44 rfl (lv_at hl 3 rfl) ?_
      obtain ⟨i11, h⟩ := g_ix h
      refine g_iast hx hb hE hP hS (by decide) rfl (by decide) i11 dX10_earns_45 (fun H locs σ12 eσ12 hP hS => ?_)
      have h := g_nm eσ12 h
      refine lv_iload_n hx hb dX10_earns_46 rfl (lv_at hl 0 rfl) ?_
      exact g_iret hx hb hr hlk hE hP hS h dX10_earns_47
    · have h := g_ift c8 h
      refine lv_aload_n hx hb dX10_earns_19 rfl (lv_at hl 0 rfl) ?_
      refine lv_ldc hx hb hown (ht _ m_837) dX10_earns_20 ?_
      obtain ⟨r14, σ13, hcr14, h⟩ := g_bd h
      refine g_callV (As := [.int (-100001)]) (n := 1) hx hb hml hown ht (c_X10_finding l G _ _ hcr14) m_838 m_840 m_14 m_41 m_841 (by decide +kernel) (by decide) gE_101 rfl hE hP hS (fun _ h => h) (fun _ _ h => h) rfl hl.1 rfl (Nat.le_of_ble_eq_true rfl) dX10_earns_22 ⟨by decide, by decide⟩ ⟨Nat.zero_le _, Nat.zero_le _⟩ (fun H locs hP hS => ?_)
      exact g_iret hx hb hr hlk hE hP hS h dX10_earns_25

def M_X10_price (a1 a2 : Int32) (σ : gSt) : gO :=
  gBd (M_X10_isWeek a1 σ) (fun r2 σ1 => if r2 = 0 then (gBd (M_X10_finding (-100001) σ1) (fun r5 σ4 => some (r5, σ4))) else (gBd (M_X10_within a2 0 99 σ1) (fun r7 σ6 => if r7 = 0 then (gBd (M_X10_finding (-100001) σ6) (fun r14 σ13 => some (r14, σ13))) else (gIx 549 ((489 : Int32) + a1) (gNm ((σ6 102 ((489 : Int32) + a1).toNatClampNeg) : Int32) (fun x10 => gIx 549 ((489 : Int32) + a1) (gNm (gUp σ6 102 ((489 : Int32) + a1).toNatClampNeg a2) (fun σ12 => some (x10, σ12)))))))))
set_option maxHeartbeats 4000000 in
set_option maxRecDepth 100000 in
theorem c_X10_price (l : Launch) (G : gPar) (a1 a2 : Int32) (σ : gSt) {r : Int32} {σ' : gSt} (h : M_X10_price a1 a2 σ = some (r, σ')) : gC l G yX10_price cX10_price 4 (some .int) 2 42 [.ref (G.2.2.1 101), .int a1, .int a2] σ r σ' := by
  refine gC_of (by decide) (Nat.le_of_ble_eq_true rfl) ?_
  intro p e s m below meth c hx hb hr ht hown hlk hml hE hP ls hl
  have hS : va_S (gA G) s.heap s.heap [] := va_S.rf
  have hl : lv_has ls 4 [(0, .ref (G.2.2.1 101)), (1, .int a1), (2, .int a2)] := hl
  unfold M_X10_price at h
  refine lv_iload_n hx hb dX10_price_0 rfl (lv_at hl 1 rfl) ?_
  obtain ⟨r2, σ1, hcr2, h⟩ := g_bd h
  refine g_callS (As := [.int a1]) (n := 1) hx hb hml hown ht (c_X10_isWeek l G _ _ hcr2) m_987 m_988 m_41 m_989 (by decide +kernel) hE hP hS (fun _ h => h) (fun _ _ h => h) rfl hl.1 rfl (Nat.le_of_ble_eq_true rfl) dX10_price_1 ⟨by decide, by decide⟩ ⟨Nat.zero_le _, Nat.zero_le _⟩ (fun H locs hP hS => ?_)
  refine lv_if_eq (tgt := 17) hx hb dX10_price_4 (by decide) (fun c3 => ?_) (fun c3 => ?_)
  · have h := g_ift c3 h
    refine lv_aload_n hx hb dX10_price_17 rfl (lv_at hl 0 rfl) ?_
    refine lv_ldc hx hb hown (ht _ m_837) dX10_price_18 ?_
    obtain ⟨r5, σ4, hcr5, h⟩ := g_bd h
    refine g_callV (As := [.int (-100001)]) (n := 1) hx hb hml hown ht (c_X10_finding l G _ _ hcr5) m_838 m_840 m_14 m_41 m_841 (by decide +kernel) (by decide) gE_101 rfl hE hP hS (fun _ h => h) (fun _ _ h => h) rfl hl.1 rfl (Nat.le_of_ble_eq_true rfl) dX10_price_20 ⟨by decide, by decide⟩ ⟨Nat.zero_le _, Nat.zero_le _⟩ (fun H locs hP hS => ?_)
    exact g_iret hx hb hr hlk hE hP hS h dX10_price_23
  · have h := g_iff c3 h
    refine lv_iload_n hx hb dX10_price_7 rfl (lv_at hl 2 rfl) ?_
    refine lv_iconst (v := 0) hx hb dX10_price_8 (by decide) ?_
    refine lv_bipush (v := 99) hx hb dX10_price_9 (by decide) ?_
    obtain ⟨r7, σ6, hcr7, h⟩ := g_bd h
    refine g_callS (As := [.int a2, .int 0, .int 99]) (n := 3) hx hb hml hown ht (c_X10_within l G _ _ _ _ hcr7) m_834 m_835 m_41 m_836 (by decide +kernel) hE hP hS (fun _ h => h) (fun _ _ h => h) rfl hl.1 rfl (Nat.le_of_ble_eq_true rfl) dX10_price_11 ⟨by decide, by decide⟩ ⟨Nat.zero_le _, Nat.zero_le _⟩ (fun H locs hP hS => ?_)
    refine lv_if_ne (tgt := 24) hx hb dX10_price_14 (by decide) (fun c8 => ?_) (fun c8 => ?_)
    · have h := g_iff c8 h
      refine lv_aload_n hx hb dX10_price_24 rfl (lv_at hl 0 rfl) ?_
      refine g_get hx hb ht hown hE hP (by decide) gE_101 uX10 rfl 0 (by decide) m_790 rfl rfl dX10_price_25 ?_
      refine lv_sipush (v := 489) hx hb dX10_price_28 (by decide) ?_
      refine lv_iload_n hx hb dX10_price_31 rfl (lv_at hl 1 rfl) ?_
      refine lv_iadd hx hb dX10_price_32 ?_
      obtain ⟨i9, h⟩ := g_ix h
      refine g_iald hx hb hE hP (by decide) rfl (by decide) i9 dX10_price_33 ?_
      refine lv_topi (fun x10 ex10 => ?_)
      have h := g_nm ex10 h
      refine lv_istore_n (lv' := [(3, .int x10), (0, .ref (G.2.2.1 101)), (1, .int a1), (2, .int a2)]) hx hb dX10_price_34 rfl hl (by decide) rfl (fun ls hl => ?_)
      refine lv_aload_n hx hb dX10_price_35 rfl (lv_at hl 1 rfl) ?_
      refine g_get hx hb ht hown hE hP (by decide) gE_101 uX10 rfl 0 (by decide) m_790 rfl rfl dX10_price_36 ?_
      refine lv_sipush (v := 489) hx hb dX10_price_39 (by decide) ?_
      refine lv_iload_n hx hb dX10_price_42 rfl (lv_at hl 2 rfl) ?_
      refine lv_iadd hx hb dX10_price_43 ?_
      refine lv_iload_n hx hb dX10_price_44 rfl (lv_at hl 3 rfl) ?_
      obtain ⟨i11, h⟩ := g_ix h
      refine g_iast hx hb hE hP hS (by decide) rfl (by decide) i11 dX10_price_45 (fun H locs σ12 eσ12 hP hS => ?_)
      have h := g_nm eσ12 h
      refine lv_iload_n hx hb dX10_price_46 rfl (lv_at hl 0 rfl) ?_
      exact g_iret hx hb hr hlk hE hP hS h dX10_price_47
    · have h := g_ift c8 h
      refine lv_aload_n hx hb dX10_price_17 rfl (lv_at hl 0 rfl) ?_
      refine lv_ldc hx hb hown (ht _ m_837) dX10_price_18 ?_
      obtain ⟨r14, σ13, hcr14, h⟩ := g_bd h
      refine g_callV (As := [.int (-100001)]) (n := 1) hx hb hml hown ht (c_X10_finding l G _ _ hcr14) m_838 m_840 m_14 m_41 m_841 (by decide +kernel) (by decide) gE_101 rfl hE hP hS (fun _ h => h) (fun _ _ h => h) rfl hl.1 rfl (Nat.le_of_ble_eq_true rfl) dX10_price_20 ⟨by decide, by decide⟩ ⟨Nat.zero_le _, Nat.zero_le _⟩ (fun H locs hP hS => ?_)
      exact g_iret hx hb hr hlk hE hP hS h dX10_price_23

def M_X10_listOf (a1 a2 : Int32) (σ : gSt) : gO :=
  gIx 549 ((99 : Int32) + a1) (if (σ 102 ((99 : Int32) + a1).toNatClampNeg) < 0 then (some ((-1), σ)) else (gIx 549 ((109 : Int32) + a1) (if a2 < (σ 102 ((109 : Int32) + a1).toNatClampNeg) then (some ((-1), σ)) else (gIx 549 ((99 : Int32) + a1) (some ((σ 102 ((99 : Int32) + a1).toNatClampNeg), σ))))))
set_option maxHeartbeats 4000000 in
set_option maxRecDepth 100000 in
theorem c_X10_listOf (l : Launch) (G : gPar) (a1 a2 : Int32) (σ : gSt) {r : Int32} {σ' : gSt} (h : M_X10_listOf a1 a2 σ = some (r, σ')) : gC l G yX10_listOf cX10_listOf 3 (some .int) 0 0 [.ref (G.2.2.1 101), .int a1, .int a2] σ r σ' := by
  refine gC_of (by decide) (Nat.le_of_ble_eq_true rfl) ?_
  intro p e s m below meth c hx hb hr ht hown hlk hml hE hP ls hl
  have hS : va_S (gA G) s.heap s.heap [] := va_S.rf
  have hl : lv_has ls 3 [(0, .ref (G.2.2.1 101)), (1, .int a1), (2, .int a2)] := hl
  unfold M_X10_listOf at h
  refine lv_aload_n hx hb dX10_listOf_0 rfl (lv_at hl 0 rfl) ?_
  refine g_get hx hb ht hown hE hP (by decide) gE_101 uX10 rfl 0 (by decide) m_790 rfl rfl dX10_listOf_1 ?_
  refine lv_bipush (v := 99) hx hb dX10_listOf_4 (by decide) ?_
  refine lv_iload_n hx hb dX10_listOf_6 rfl (lv_at hl 1 rfl) ?_
  refine lv_iadd hx hb dX10_listOf_7 ?_
  obtain ⟨i1, h⟩ := g_ix h
  refine g_iald hx hb hE hP (by decide) rfl (by decide) i1 dX10_listOf_8 ?_
  refine lv_if_lt (tgt := 37) hx hb dX10_listOf_9 (by decide) (fun c2 => ?_) (fun c2 => ?_)
  · have h := g_ift c2 h
    refine lv_iconst (v := (-1)) hx hb dX10_listOf_37 (by decide) ?_
    exact g_iret hx hb hr hlk hE hP hS h dX10_listOf_38
  · have h := g_iff c2 h
    refine lv_aload_n hx hb dX10_listOf_12 rfl (lv_at hl 0 rfl) ?_
    refine g_get hx hb ht hown hE hP (by decide) gE_101 uX10 rfl 0 (by decide) m_790 rfl rfl dX10_listOf_13 ?_
    refine lv_bipush (v := 109) hx hb dX10_listOf_16 (by decide) ?_
    refine lv_iload_n hx hb dX10_listOf_18 rfl (lv_at hl 1 rfl) ?_
    refine lv_iadd hx hb dX10_listOf_19 ?_
    obtain ⟨i3, h⟩ := g_ix h
    refine g_iald hx hb hE hP (by decide) rfl (by decide) i3 dX10_listOf_20 ?_
    refine lv_iload_n hx hb dX10_listOf_21 rfl (lv_at hl 2 rfl) ?_
    refine lv_icmp_gt (tgt := 37) hx hb dX10_listOf_22 (by decide) (fun c4 => ?_) (fun c4 => ?_)
    · have h := g_ift c4 h
      refine lv_iconst (v := (-1)) hx hb dX10_listOf_37 (by decide) ?_
      exact g_iret hx hb hr hlk hE hP hS h dX10_listOf_38
    · have h := g_iff c4 h
      refine lv_aload_n hx hb dX10_listOf_25 rfl (lv_at hl 0 rfl) ?_
      refine g_get hx hb ht hown hE hP (by decide) gE_101 uX10 rfl 0 (by decide) m_790 rfl rfl dX10_listOf_26 ?_
      refine lv_bipush (v := 99) hx hb dX10_listOf_29 (by decide) ?_
      refine lv_iload_n hx hb dX10_listOf_31 rfl (lv_at hl 1 rfl) ?_
      refine lv_iadd hx hb dX10_listOf_32 ?_
      obtain ⟨i5, h⟩ := g_ix h
      refine g_iald hx hb hE hP (by decide) rfl (by decide) i5 dX10_listOf_33 ?_
      refine lv_goto (tgt := 38) hx hb dX10_listOf_34 (by decide) ?_
      exact g_iret hx hb hr hlk hE hP hS h dX10_listOf_38

def M_X10_isWifeOf (a1 a2 : Int32) (σ : gSt) : gO :=
  gIx 549 ((49 : Int32) + a1) (if (σ 102 ((49 : Int32) + a1).toNatClampNeg) = 1 then (gIx 549 ((79 : Int32) + a1) (if (σ 102 ((79 : Int32) + a1).toNatClampNeg) = a2 then (some (1, σ)) else (some (0, σ)))) else (some (0, σ)))
set_option maxHeartbeats 4000000 in
set_option maxRecDepth 100000 in
theorem c_X10_isWifeOf (l : Launch) (G : gPar) (a1 a2 : Int32) (σ : gSt) {r : Int32} {σ' : gSt} (h : M_X10_isWifeOf a1 a2 σ = some (r, σ')) : gC l G yX10_isWifeOf cX10_isWifeOf 3 (some .boolean) 0 0 [.ref (G.2.2.1 101), .int a1, .int a2] σ r σ' := by
  refine gC_of (by decide) (Nat.le_of_ble_eq_true rfl) ?_
  intro p e s m below meth c hx hb hr ht hown hlk hml hE hP ls hl
  have hS : va_S (gA G) s.heap s.heap [] := va_S.rf
  have hl : lv_has ls 3 [(0, .ref (G.2.2.1 101)), (1, .int a1), (2, .int a2)] := hl
  unfold M_X10_isWifeOf at h
  refine lv_aload_n hx hb dX10_isWifeOf_0 rfl (lv_at hl 0 rfl) ?_
  refine g_get hx hb ht hown hE hP (by decide) gE_101 uX10 rfl 0 (by decide) m_790 rfl rfl dX10_isWifeOf_1 ?_
  refine lv_bipush (v := 49) hx hb dX10_isWifeOf_4 (by decide) ?_
  refine lv_iload_n hx hb dX10_isWifeOf_6 rfl (lv_at hl 1 rfl) ?_
  refine lv_iadd hx hb dX10_isWifeOf_7 ?_
  obtain ⟨i1, h⟩ := g_ix h
  refine g_iald hx hb hE hP (by decide) rfl (by decide) i1 dX10_isWifeOf_8 ?_
  refine lv_iconst (v := 1) hx hb dX10_isWifeOf_9 (by decide) ?_
  refine lv_icmp_ne (tgt := 30) hx hb dX10_isWifeOf_10 (by decide) (fun c2 => ?_) (fun c2 => ?_)
  · have h := g_iff c2 h
    refine lv_iconst (v := 0) hx hb dX10_isWifeOf_30 (by decide) ?_
    exact g_zret hx hb hr hlk hE hP hS (by decide) h dX10_isWifeOf_31
  · have h := g_ift c2 h
    refine lv_aload_n hx hb dX10_isWifeOf_13 rfl (lv_at hl 0 rfl) ?_
    refine g_get hx hb ht hown hE hP (by decide) gE_101 uX10 rfl 0 (by decide) m_790 rfl rfl dX10_isWifeOf_14 ?_
    refine lv_bipush (v := 79) hx hb dX10_isWifeOf_17 (by decide) ?_
    refine lv_iload_n hx hb dX10_isWifeOf_19 rfl (lv_at hl 1 rfl) ?_
    refine lv_iadd hx hb dX10_isWifeOf_20 ?_
    obtain ⟨i3, h⟩ := g_ix h
    refine g_iald hx hb hE hP (by decide) rfl (by decide) i3 dX10_isWifeOf_21 ?_
    refine lv_iload_n hx hb dX10_isWifeOf_22 rfl (lv_at hl 2 rfl) ?_
    refine lv_icmp_ne (tgt := 30) hx hb dX10_isWifeOf_23 (by decide) (fun c4 => ?_) (fun c4 => ?_)
    · have h := g_iff c4 h
      refine lv_iconst (v := 0) hx hb dX10_isWifeOf_30 (by decide) ?_
      exact g_zret hx hb hr hlk hE hP hS (by decide) h dX10_isWifeOf_31
    · have h := g_ift c4 h
      refine lv_iconst (v := 1) hx hb dX10_isWifeOf_26 (by decide) ?_
      refine lv_goto (tgt := 31) hx hb dX10_isWifeOf_27 (by decide) ?_
      exact g_zret hx hb hr hlk hE hP hS (by decide) h dX10_isWifeOf_31

def L5_X10_reliefOf (r2 a1 a2 : Int32) : Nat → Int32 → Int32 → gSt → (Int32 → Int32 → gSt → gO) → gO
  | 0, _, _, _, _ => none
  | nL5 + 1, l5_5, l5_4, σL5, kL5 =>
    gIx 549 1 (if (σL5 102 (1 : Int32).toNatClampNeg) ≤ l5_5 then (kL5 l5_5 l5_4 σL5) else (gBd (M_X10_listOf l5_5 a2 σL5) (fun r9 σ8 => if r9 = r2 then (gBd (M_X10_isWifeOf l5_5 a1 σ8) (fun r17 σ16 => if r17 = 0 then (gNm ((l5_4 + 0) : Int32) (fun x19 => gBd (M_X10_isWifeOf a1 l5_5 σ16) (fun r22 σ21 => if r22 = 0 then (gNm (l5_5 + 1 : Int32) (fun x24 => L5_X10_reliefOf r2 a1 a2 nL5 x24 x19 σ21 kL5)) else (some (0, σ21))))) else (gNm ((l5_4 + 2) : Int32) (fun x25 => gBd (M_X10_isWifeOf a1 l5_5 σ16) (fun r28 σ27 => if r28 = 0 then (gNm (l5_5 + 1 : Int32) (fun x30 => L5_X10_reliefOf r2 a1 a2 nL5 x30 x25 σ27 kL5)) else (some (0, σ27))))))) else (gNm ((l5_4 + 0) : Int32) (fun x12 => gNm (l5_5 + 1 : Int32) (fun x14 => L5_X10_reliefOf r2 a1 a2 nL5 x14 x12 σ8 kL5))))))
def M_X10_reliefOf (a1 a2 : Int32) (σ : gSt) : gO :=
  gBd (M_X10_listOf a1 a2 σ) (fun r2 σ1 => gIx 549 6 (gNm ((σ1 102 (6 : Int32).toNatClampNeg) : Int32) (fun x4 => L5_X10_reliefOf r2 a1 a2 gFu 0 x4 σ1 (fun z31 z32 σ33 => gIx 549 ((489 : Int32) + a2) (gIx 549 ((119 : Int32) + a1) (some ((if 0 < ((z32 * (σ33 102 ((489 : Int32) + a2).toNatClampNeg)) - (σ33 102 ((119 : Int32) + a1).toNatClampNeg)) then ((z32 * (σ33 102 ((489 : Int32) + a2).toNatClampNeg)) - (σ33 102 ((119 : Int32) + a1).toNatClampNeg)) else 0), σ33)))))))
set_option maxHeartbeats 4000000 in
set_option maxRecDepth 100000 in
theorem c_X10_reliefOf (l : Launch) (G : gPar) (a1 a2 : Int32) (σ : gSt) {r : Int32} {σ' : gSt} (h : M_X10_reliefOf a1 a2 σ = some (r, σ')) : gC l G yX10_reliefOf cX10_reliefOf 7 (some .int) 1 22 [.ref (G.2.2.1 101), .int a1, .int a2] σ r σ' := by
  refine gC_of (by decide) (Nat.le_of_ble_eq_true rfl) ?_
  intro p e s m below meth c hx hb hr ht hown hlk hml hE hP ls hl
  have hS : va_S (gA G) s.heap s.heap [] := va_S.rf
  have hl : lv_has ls 7 [(0, .ref (G.2.2.1 101)), (1, .int a1), (2, .int a2)] := hl
  unfold M_X10_reliefOf at h
  refine lv_aload_n hx hb dX10_reliefOf_0 rfl (lv_at hl 0 rfl) ?_
  refine lv_iload_n hx hb dX10_reliefOf_1 rfl (lv_at hl 1 rfl) ?_
  refine lv_iload_n hx hb dX10_reliefOf_2 rfl (lv_at hl 2 rfl) ?_
  obtain ⟨r2, σ1, hcr2, h⟩ := g_bd h
  refine g_callV (As := [.int a1, .int a2]) (n := 2) hx hb hml hown ht (c_X10_listOf l G _ _ _ hcr2) m_1002 m_1004 m_27 m_41 m_1005 (by decide +kernel) (by decide) gE_101 rfl hE hP hS (fun _ h => h) (fun _ _ h => h) rfl hl.1 rfl (Nat.le_of_ble_eq_true rfl) dX10_reliefOf_3 ⟨by decide, by decide⟩ ⟨Nat.zero_le _, Nat.zero_le _⟩ (fun H locs hP hS => ?_)
  refine lv_istore_n (lv' := [(3, .int r2), (0, .ref (G.2.2.1 101)), (1, .int a1), (2, .int a2)]) hx hb dX10_reliefOf_6 rfl hl (by decide) rfl (fun ls hl => ?_)
  refine lv_aload_n hx hb dX10_reliefOf_7 rfl (lv_at hl 1 rfl) ?_
  refine g_get hx hb ht hown hE hP (by decide) gE_101 uX10 rfl 0 (by decide) m_790 rfl rfl dX10_reliefOf_8 ?_
  refine lv_bipush (v := 6) hx hb dX10_reliefOf_11 (by decide) ?_
  obtain ⟨i3, h⟩ := g_ix h
  refine g_iald hx hb hE hP (by decide) rfl (by decide) i3 dX10_reliefOf_13 ?_
  refine lv_topi (fun x4 ex4 => ?_)
  have h := g_nm ex4 h
  refine lv_istore (lv' := [(4, .int x4), (3, .int r2), (0, .ref (G.2.2.1 101)), (1, .int a1), (2, .int a2)]) hx hb dX10_reliefOf_14 hl (by decide) rfl (fun ls hl => ?_)
  refine lv_iconst (v := 0) hx hb dX10_reliefOf_16 (by decide) ?_
  refine lv_istore (lv' := [(5, .int 0), (4, .int x4), (3, .int r2), (0, .ref (G.2.2.1 101)), (1, .int a1), (2, .int a2)]) hx hb dX10_reliefOf_17 hl (by decide) rfl (fun ls hl => ?_)
  have LPL5 : ∀ (kL5 : Int32 → Int32 → gSt → gO), (∀ (l5_5 l5_4 : Int32) (σL5 : gSt) (H : Heap) (locs : List Loc) (ls : Array Slot), kL5 l5_5 l5_4 σL5 = some (r, σ') → gW G σL5 H → va_S (gA G) s.heap H locs → lv_has ls 7 [(5, .int l5_5), (4, .int l5_4), (3, .int r2), (0, .ref (G.2.2.1 101)), (1, .int a1), (2, .int a2)] → W p l e (gRm 1 22) s m ([.ref (G.2.2.1 101), .int a1, .int a2].toArray) below meth c H locs 0 0 (MQ below (gQ G r σ') ([.ref (G.2.2.1 101), .int a1, .int a2].toArray) s 0 0 (gA G)) (F0 m 96 ls [])) → ∀ (nL5 : Nat) (l5_5 l5_4 : Int32) (σL5 : gSt) (H : Heap) (locs : List Loc) (ls : Array Slot), L5_X10_reliefOf r2 a1 a2 nL5 l5_5 l5_4 σL5 kL5 = some (r, σ') → gW G σL5 H → va_S (gA G) s.heap H locs → lv_has ls 7 [(5, .int l5_5), (4, .int l5_4), (3, .int r2), (0, .ref (G.2.2.1 101)), (1, .int a1), (2, .int a2)] → W p l e (gRm 1 22) s m ([.ref (G.2.2.1 101), .int a1, .int a2].toArray) below meth c H locs 0 0 (MQ below (gQ G r σ') ([.ref (G.2.2.1 101), .int a1, .int a2].toArray) s 0 0 (gA G)) (F0 m 19 ls []) := by
    intro kL5 hKL5 nL5
    induction nL5 with
    | zero =>
      intro l5_5 l5_4 σL5 H locs ls h
      cases h
    | succ nL5 ihL5 =>
      intro l5_5 l5_4 σL5 H locs ls h hP hS hl
      rw [L5_X10_reliefOf] at h
      refine lv_iload hx hb dX10_reliefOf_19 (lv_at hl 0 rfl) ?_
      refine lv_aload_n hx hb dX10_reliefOf_21 rfl (lv_at hl 3 rfl) ?_
      refine g_get hx hb ht hown hE hP (by decide) gE_101 uX10 rfl 0 (by decide) m_790 rfl rfl dX10_reliefOf_22 ?_
      refine lv_iconst (v := 1) hx hb dX10_reliefOf_25 (by decide) ?_
      obtain ⟨i6, h⟩ := g_ix h
      refine g_iald hx hb hE hP (by decide) rfl (by decide) i6 dX10_reliefOf_26 ?_
      refine lv_icmp_ge (tgt := 96) hx hb dX10_reliefOf_27 (by decide) (fun c7 => ?_) (fun c7 => ?_)
      · have h := g_ift c7 h
        exact hKL5 _ _ _ _ _ _ h hP hS (lv_sub hl [0, 1, 2, 3, 4, 5] rfl)
      · have h := g_iff c7 h
        refine lv_aload_n hx hb dX10_reliefOf_30 rfl (lv_at hl 3 rfl) ?_
        refine lv_iload hx hb dX10_reliefOf_31 (lv_at hl 0 rfl) ?_
        refine lv_iload_n hx hb dX10_reliefOf_33 rfl (lv_at hl 5 rfl) ?_
        obtain ⟨r9, σ8, hcr9, h⟩ := g_bd h
        refine g_callV (As := [.int l5_5, .int a2]) (n := 2) hx hb hml hown ht (c_X10_listOf l G _ _ _ hcr9) m_1002 m_1004 m_27 m_41 m_1005 (by decide +kernel) (by decide) gE_101 rfl hE hP hS (fun _ h => h) (fun _ _ h => h) rfl hl.1 rfl (Nat.le_of_ble_eq_true rfl) dX10_reliefOf_34 ⟨by decide, by decide⟩ ⟨Nat.zero_le _, Nat.zero_le _⟩ (fun H locs hP hS => ?_)
        refine lv_iload_n hx hb dX10_reliefOf_37 rfl (lv_at hl 2 rfl) ?_
        refine lv_icmp_ne (tgt := 45) hx hb dX10_reliefOf_38 (by decide) (fun c10 => ?_) (fun c10 => ?_)
        · have h := g_iff c10 h
          refine lv_iconst (v := 0) hx hb dX10_reliefOf_45 (by decide) ?_
          refine lv_istore (lv' := [(6, .int 0), (5, .int l5_5), (4, .int l5_4), (3, .int r2), (0, .ref (G.2.2.1 101)), (1, .int a1), (2, .int a2)]) hx hb dX10_reliefOf_46 hl (by decide) rfl (fun ls hl => ?_)
          refine lv_iload hx hb dX10_reliefOf_48 (lv_at hl 2 rfl) ?_
          refine lv_iload hx hb dX10_reliefOf_50 (lv_at hl 0 rfl) ?_
          refine lv_if_eq (tgt := 69) hx hb dX10_reliefOf_52 (by decide) (fun _ => ?_) (fun c11 => absurd (by decide) c11)
          refine lv_iconst (v := 0) hx hb dX10_reliefOf_69 (by decide) ?_
          refine lv_iadd hx hb dX10_reliefOf_70 ?_
          refine lv_topi (fun x12 ex12 => ?_)
          have h := g_nm ex12 h
          refine lv_istore (lv' := [(4, .int x12), (6, .int 0), (5, .int l5_5), (3, .int r2), (0, .ref (G.2.2.1 101)), (1, .int a1), (2, .int a2)]) hx hb dX10_reliefOf_71 hl (by decide) rfl (fun ls hl => ?_)
          refine lv_iload hx hb dX10_reliefOf_73 (lv_at hl 1 rfl) ?_
          refine lv_if_eq (tgt := 90) hx hb dX10_reliefOf_75 (by decide) (fun _ => ?_) (fun c13 => absurd (by decide) c13)
          obtain ⟨x14, ex14⟩ : ∃ y : Int32, y = l5_5 + 1 := ⟨_, rfl⟩
          have h := g_nm ex14 h
          refine lv_iinc (v := x14) (lv' := [(5, .int x14), (4, .int x12), (6, .int 0), (3, .int r2), (0, .ref (G.2.2.1 101)), (1, .int a1), (2, .int a2)]) hx hb dX10_reliefOf_90 hl (k := 2) rfl (by rw [ex14]; rfl) (by decide) rfl (fun ls hl => ?_)
          refine lv_goto (tgt := 19) hx hb dX10_reliefOf_93 (by decide) ?_
          exact ihL5 _ _ _ _ _ _ h hP hS (lv_sub hl [0, 1, 3, 4, 5, 6] rfl)
        · have h := g_ift c10 h
          refine lv_iconst (v := 1) hx hb dX10_reliefOf_41 (by decide) ?_
          refine lv_goto (tgt := 46) hx hb dX10_reliefOf_42 (by decide) ?_
          refine lv_istore (lv' := [(6, .int 1), (5, .int l5_5), (4, .int l5_4), (3, .int r2), (0, .ref (G.2.2.1 101)), (1, .int a1), (2, .int a2)]) hx hb dX10_reliefOf_46 hl (by decide) rfl (fun ls hl => ?_)
          refine lv_iload hx hb dX10_reliefOf_48 (lv_at hl 2 rfl) ?_
          refine lv_iload hx hb dX10_reliefOf_50 (lv_at hl 0 rfl) ?_
          refine lv_if_eq (tgt := 69) hx hb dX10_reliefOf_52 (by decide) (fun c15 => absurd c15 (by decide)) (fun _ => ?_)
          refine lv_aload_n hx hb dX10_reliefOf_55 rfl (lv_at hl 4 rfl) ?_
          refine lv_iload hx hb dX10_reliefOf_56 (lv_at hl 1 rfl) ?_
          refine lv_iload_n hx hb dX10_reliefOf_58 rfl (lv_at hl 5 rfl) ?_
          obtain ⟨r17, σ16, hcr17, h⟩ := g_bd h
          refine g_callV (As := [.int l5_5, .int a1]) (n := 2) hx hb hml hown ht (c_X10_isWifeOf l G _ _ _ hcr17) m_1011 m_1013 m_29 m_41 m_1014 (by decide +kernel) (by decide) gE_101 rfl hE hP hS (fun _ h => h) (fun _ _ h => h) rfl hl.1 rfl (Nat.le_of_ble_eq_true rfl) dX10_reliefOf_59 ⟨by decide, by decide⟩ ⟨Nat.zero_le _, Nat.zero_le _⟩ (fun H locs hP hS => ?_)
          refine lv_if_eq (tgt := 69) hx hb dX10_reliefOf_62 (by decide) (fun c18 => ?_) (fun c18 => ?_)
          · have h := g_ift c18 h
            refine lv_iconst (v := 0) hx hb dX10_reliefOf_69 (by decide) ?_
            refine lv_iadd hx hb dX10_reliefOf_70 ?_
            refine lv_topi (fun x19 ex19 => ?_)
            have h := g_nm ex19 h
            refine lv_istore (lv' := [(4, .int x19), (6, .int 1), (5, .int l5_5), (3, .int r2), (0, .ref (G.2.2.1 101)), (1, .int a1), (2, .int a2)]) hx hb dX10_reliefOf_71 hl (by decide) rfl (fun ls hl => ?_)
            refine lv_iload hx hb dX10_reliefOf_73 (lv_at hl 1 rfl) ?_
            refine lv_if_eq (tgt := 90) hx hb dX10_reliefOf_75 (by decide) (fun c20 => absurd c20 (by decide)) (fun _ => ?_)
            refine lv_aload_n hx hb dX10_reliefOf_78 rfl (lv_at hl 4 rfl) ?_
            refine lv_iload_n hx hb dX10_reliefOf_79 rfl (lv_at hl 5 rfl) ?_
            refine lv_iload hx hb dX10_reliefOf_80 (lv_at hl 2 rfl) ?_
            obtain ⟨r22, σ21, hcr22, h⟩ := g_bd h
            refine g_callV (As := [.int a1, .int l5_5]) (n := 2) hx hb hml hown ht (c_X10_isWifeOf l G _ _ _ hcr22) m_1011 m_1013 m_29 m_41 m_1014 (by decide +kernel) (by decide) gE_101 rfl hE hP hS (fun _ h => h) (fun _ _ h => h) rfl hl.1 rfl (Nat.le_of_ble_eq_true rfl) dX10_reliefOf_82 ⟨by decide, by decide⟩ ⟨Nat.zero_le _, Nat.zero_le _⟩ (fun H locs hP hS => ?_)
            refine lv_if_eq (tgt := 90) hx hb dX10_reliefOf_85 (by decide) (fun c23 => ?_) (fun c23 => ?_)
            · have h := g_ift c23 h
              obtain ⟨x24, ex24⟩ : ∃ y : Int32, y = l5_5 + 1 := ⟨_, rfl⟩
              have h := g_nm ex24 h
              refine lv_iinc (v := x24) (lv' := [(5, .int x24), (4, .int x19), (6, .int 1), (3, .int r2), (0, .ref (G.2.2.1 101)), (1, .int a1), (2, .int a2)]) hx hb dX10_reliefOf_90 hl (k := 2) rfl (by rw [ex24]; rfl) (by decide) rfl (fun ls hl => ?_)
              refine lv_goto (tgt := 19) hx hb dX10_reliefOf_93 (by decide) ?_
              exact ihL5 _ _ _ _ _ _ h hP hS (lv_sub hl [0, 1, 3, 4, 5, 6] rfl)
            · have h := g_iff c23 h
              refine lv_iconst (v := 0) hx hb dX10_reliefOf_88 (by decide) ?_
              exact g_iret hx hb hr hlk hE hP hS h dX10_reliefOf_89
          · have h := g_iff c18 h
            refine lv_iconst (v := 2) hx hb dX10_reliefOf_65 (by decide) ?_
            refine lv_goto (tgt := 70) hx hb dX10_reliefOf_66 (by decide) ?_
            refine lv_iadd hx hb dX10_reliefOf_70 ?_
            refine lv_topi (fun x25 ex25 => ?_)
            have h := g_nm ex25 h
            refine lv_istore (lv' := [(4, .int x25), (6, .int 1), (5, .int l5_5), (3, .int r2), (0, .ref (G.2.2.1 101)), (1, .int a1), (2, .int a2)]) hx hb dX10_reliefOf_71 hl (by decide) rfl (fun ls hl => ?_)
            refine lv_iload hx hb dX10_reliefOf_73 (lv_at hl 1 rfl) ?_
            refine lv_if_eq (tgt := 90) hx hb dX10_reliefOf_75 (by decide) (fun c26 => absurd c26 (by decide)) (fun _ => ?_)
            refine lv_aload_n hx hb dX10_reliefOf_78 rfl (lv_at hl 4 rfl) ?_
            refine lv_iload_n hx hb dX10_reliefOf_79 rfl (lv_at hl 5 rfl) ?_
            refine lv_iload hx hb dX10_reliefOf_80 (lv_at hl 2 rfl) ?_
            obtain ⟨r28, σ27, hcr28, h⟩ := g_bd h
            refine g_callV (As := [.int a1, .int l5_5]) (n := 2) hx hb hml hown ht (c_X10_isWifeOf l G _ _ _ hcr28) m_1011 m_1013 m_29 m_41 m_1014 (by decide +kernel) (by decide) gE_101 rfl hE hP hS (fun _ h => h) (fun _ _ h => h) rfl hl.1 rfl (Nat.le_of_ble_eq_true rfl) dX10_reliefOf_82 ⟨by decide, by decide⟩ ⟨Nat.zero_le _, Nat.zero_le _⟩ (fun H locs hP hS => ?_)
            refine lv_if_eq (tgt := 90) hx hb dX10_reliefOf_85 (by decide) (fun c29 => ?_) (fun c29 => ?_)
            · have h := g_ift c29 h
              obtain ⟨x30, ex30⟩ : ∃ y : Int32, y = l5_5 + 1 := ⟨_, rfl⟩
              have h := g_nm ex30 h
              refine lv_iinc (v := x30) (lv' := [(5, .int x30), (4, .int x25), (6, .int 1), (3, .int r2), (0, .ref (G.2.2.1 101)), (1, .int a1), (2, .int a2)]) hx hb dX10_reliefOf_90 hl (k := 2) rfl (by rw [ex30]; rfl) (by decide) rfl (fun ls hl => ?_)
              refine lv_goto (tgt := 19) hx hb dX10_reliefOf_93 (by decide) ?_
              exact ihL5 _ _ _ _ _ _ h hP hS (lv_sub hl [0, 1, 3, 4, 5, 6] rfl)
            · have h := g_iff c29 h
              refine lv_iconst (v := 0) hx hb dX10_reliefOf_88 (by decide) ?_
              exact g_iret hx hb hr hlk hE hP hS h dX10_reliefOf_89
  refine LPL5 _ (fun z31 z32 σ33 H locs ls h hP hS hl => ?_) gFu _ _ _ _ _ _ h hP hS (lv_sub hl [0, 1, 2, 3, 4, 5] rfl)
  refine lv_iconst (v := 0) hx hb dX10_reliefOf_96 (by decide) ?_
  refine lv_iload hx hb dX10_reliefOf_97 (lv_at hl 1 rfl) ?_
  refine lv_aload_n hx hb dX10_reliefOf_99 rfl (lv_at hl 3 rfl) ?_
  refine g_get hx hb ht hown hE hP (by decide) gE_101 uX10 rfl 0 (by decide) m_790 rfl rfl dX10_reliefOf_100 ?_
  refine lv_sipush (v := 489) hx hb dX10_reliefOf_103 (by decide) ?_
  refine lv_iload_n hx hb dX10_reliefOf_106 rfl (lv_at hl 5 rfl) ?_
  refine lv_iadd hx hb dX10_reliefOf_107 ?_
  obtain ⟨i34, h⟩ := g_ix h
  refine g_iald hx hb hE hP (by decide) rfl (by decide) i34 dX10_reliefOf_108 ?_
  refine lv_imul hx hb dX10_reliefOf_109 ?_
  refine lv_aload_n hx hb dX10_reliefOf_110 rfl (lv_at hl 3 rfl) ?_
  refine g_get hx hb ht hown hE hP (by decide) gE_101 uX10 rfl 0 (by decide) m_790 rfl rfl dX10_reliefOf_111 ?_
  refine lv_bipush (v := 119) hx hb dX10_reliefOf_114 (by decide) ?_
  refine lv_iload_n hx hb dX10_reliefOf_116 rfl (lv_at hl 4 rfl) ?_
  refine lv_iadd hx hb dX10_reliefOf_117 ?_
  obtain ⟨i35, h⟩ := g_ix h
  refine g_iald hx hb hE hP (by decide) rfl (by decide) i35 dX10_reliefOf_118 ?_
  refine lv_isub hx hb dX10_reliefOf_119 ?_
  refine g_max hx hb (hml.trans hl.1.symm) hown ht m_957 m_591 m_43 m_592 (Nat.le_of_ble_eq_true rfl) (Nat.le_of_ble_eq_true rfl) ⟨Nat.zero_le _, Nat.zero_le _⟩ dX10_reliefOf_120 ?_
  exact g_iret hx hb hr hlk hE hP hS h dX10_reliefOf_123

def M_X10_relief (a1 a2 : Int32) (σ : gSt) : gO :=
  gBd (M_X10_isPerson a1 σ) (fun r2 σ1 => if r2 = 0 then (gBd (M_X10_finding (-100001) σ1) (fun r5 σ4 => some (r5, σ4))) else (gBd (M_X10_isWeek a2 σ1) (fun r7 σ6 => if r7 = 0 then (gBd (M_X10_finding (-100001) σ6) (fun r21 σ20 => some (r21, σ20))) else (gBd (M_X10_listOf a1 a2 σ6) (fun r10 σ9 => if 0 ≤ r10 then (gIx 549 ((489 : Int32) + a2) (if (σ9 102 ((489 : Int32) + a2).toNatClampNeg) = 0 then (gBd (M_X10_finding (-100002) σ9) (fun r17 σ16 => some (r17, σ16))) else (gBd (M_X10_reliefOf a1 a2 σ9) (fun r15 σ14 => some (r15, σ14))))) else (gBd (M_X10_finding (-100006) σ9) (fun r19 σ18 => some (r19, σ18))))))))
set_option maxHeartbeats 4000000 in
set_option maxRecDepth 100000 in
theorem c_X10_relief (l : Launch) (G : gPar) (a1 a2 : Int32) (σ : gSt) {r : Int32} {σ' : gSt} (h : M_X10_relief a1 a2 σ = some (r, σ')) : gC l G yX10_relief cX10_relief 3 (some .int) 2 48 [.ref (G.2.2.1 101), .int a1, .int a2] σ r σ' := by
  refine gC_of (by decide) (Nat.le_of_ble_eq_true rfl) ?_
  intro p e s m below meth c hx hb hr ht hown hlk hml hE hP ls hl
  have hS : va_S (gA G) s.heap s.heap [] := va_S.rf
  have hl : lv_has ls 3 [(0, .ref (G.2.2.1 101)), (1, .int a1), (2, .int a2)] := hl
  unfold M_X10_relief at h
  refine lv_aload_n hx hb dX10_relief_0 rfl (lv_at hl 0 rfl) ?_
  refine lv_iload_n hx hb dX10_relief_1 rfl (lv_at hl 1 rfl) ?_
  obtain ⟨r2, σ1, hcr2, h⟩ := g_bd h
  refine g_callV (As := [.int a1]) (n := 1) hx hb hml hown ht (c_X10_isPerson l G _ _ hcr2) m_863 m_865 m_16 m_41 m_866 (by decide +kernel) (by decide) gE_101 rfl hE hP hS (fun _ h => h) (fun _ _ h => h) rfl hl.1 rfl (Nat.le_of_ble_eq_true rfl) dX10_relief_2 ⟨by decide, by decide⟩ ⟨Nat.zero_le _, Nat.zero_le _⟩ (fun H locs hP hS => ?_)
  refine lv_if_eq (tgt := 15) hx hb dX10_relief_5 (by decide) (fun c3 => ?_) (fun c3 => ?_)
  · have h := g_ift c3 h
    refine lv_aload_n hx hb dX10_relief_15 rfl (lv_at hl 0 rfl) ?_
    refine lv_ldc hx hb hown (ht _ m_837) dX10_relief_16 ?_
    obtain ⟨r5, σ4, hcr5, h⟩ := g_bd h
    refine g_callV (As := [.int (-100001)]) (n := 1) hx hb hml hown ht (c_X10_finding l G _ _ hcr5) m_838 m_840 m_14 m_41 m_841 (by decide +kernel) (by decide) gE_101 rfl hE hP hS (fun _ h => h) (fun _ _ h => h) rfl hl.1 rfl (Nat.le_of_ble_eq_true rfl) dX10_relief_18 ⟨by decide, by decide⟩ ⟨Nat.zero_le _, Nat.zero_le _⟩ (fun H locs hP hS => ?_)
    exact g_iret hx hb hr hlk hE hP hS h dX10_relief_21
  · have h := g_iff c3 h
    refine lv_iload_n hx hb dX10_relief_8 rfl (lv_at hl 2 rfl) ?_
    obtain ⟨r7, σ6, hcr7, h⟩ := g_bd h
    refine g_callS (As := [.int a2]) (n := 1) hx hb hml hown ht (c_X10_isWeek l G _ _ hcr7) m_987 m_988 m_41 m_989 (by decide +kernel) hE hP hS (fun _ h => h) (fun _ _ h => h) rfl hl.1 rfl (Nat.le_of_ble_eq_true rfl) dX10_relief_9 ⟨by decide, by decide⟩ ⟨Nat.zero_le _, Nat.zero_le _⟩ (fun H locs hP hS => ?_)
    refine lv_if_ne (tgt := 22) hx hb dX10_relief_12 (by decide) (fun c8 => ?_) (fun c8 => ?_)
    · have h := g_iff c8 h
      refine lv_aload_n hx hb dX10_relief_22 rfl (lv_at hl 0 rfl) ?_
      refine lv_iload_n hx hb dX10_relief_23 rfl (lv_at hl 1 rfl) ?_
      refine lv_iload_n hx hb dX10_relief_24 rfl (lv_at hl 2 rfl) ?_
      obtain ⟨r10, σ9, hcr10, h⟩ := g_bd h
      refine g_callV (As := [.int a1, .int a2]) (n := 2) hx hb hml hown ht (c_X10_listOf l G _ _ _ hcr10) m_1002 m_1004 m_27 m_41 m_1005 (by decide +kernel) (by decide) gE_101 rfl hE hP hS (fun _ h => h) (fun _ _ h => h) rfl hl.1 rfl (Nat.le_of_ble_eq_true rfl) dX10_relief_25 ⟨by decide, by decide⟩ ⟨Nat.zero_le _, Nat.zero_le _⟩ (fun H locs hP hS => ?_)
      refine lv_if_ge (tgt := 38) hx hb dX10_relief_28 (by decide) (fun c11 => ?_) (fun c11 => ?_)
      · have h := g_ift c11 h
        refine lv_aload_n hx hb dX10_relief_38 rfl (lv_at hl 0 rfl) ?_
        refine g_get hx hb ht hown hE hP (by decide) gE_101 uX10 rfl 0 (by decide) m_790 rfl rfl dX10_relief_39 ?_
        refine lv_sipush (v := 489) hx hb dX10_relief_42 (by decide) ?_
        refine lv_iload_n hx hb dX10_relief_45 rfl (lv_at hl 2 rfl) ?_
        refine lv_iadd hx hb dX10_relief_46 ?_
        obtain ⟨i12, h⟩ := g_ix h
        refine g_iald hx hb hE hP (by decide) rfl (by decide) i12 dX10_relief_47 ?_
        refine lv_if_ne (tgt := 60) hx hb dX10_relief_48 (by decide) (fun c13 => ?_) (fun c13 => ?_)
        · have h := g_iff c13 h
          refine lv_aload_n hx hb dX10_relief_60 rfl (lv_at hl 0 rfl) ?_
          refine lv_iload_n hx hb dX10_relief_61 rfl (lv_at hl 1 rfl) ?_
          refine lv_iload_n hx hb dX10_relief_62 rfl (lv_at hl 2 rfl) ?_
          obtain ⟨r15, σ14, hcr15, h⟩ := g_bd h
          refine g_callV (As := [.int a1, .int a2]) (n := 2) hx hb hml hown ht (c_X10_reliefOf l G _ _ _ hcr15) m_1007 m_1009 m_28 m_41 m_1010 (by decide +kernel) (by decide) gE_101 rfl hE hP hS (fun _ h => h) (fun _ _ h => h) rfl hl.1 rfl (Nat.le_of_ble_eq_true rfl) dX10_relief_63 ⟨by decide, by decide⟩ ⟨Nat.zero_le _, Nat.zero_le _⟩ (fun H locs hP hS => ?_)
          exact g_iret hx hb hr hlk hE hP hS h dX10_relief_66
        · have h := g_ift c13 h
          refine lv_aload_n hx hb dX10_relief_51 rfl (lv_at hl 0 rfl) ?_
          refine lv_ldc hx hb hown (ht _ m_1006) dX10_relief_52 ?_
          obtain ⟨r17, σ16, hcr17, h⟩ := g_bd h
          refine g_callV (As := [.int (-100002)]) (n := 1) hx hb hml hown ht (c_X10_finding l G _ _ hcr17) m_838 m_840 m_14 m_41 m_841 (by decide +kernel) (by decide) gE_101 rfl hE hP hS (fun _ h => h) (fun _ _ h => h) rfl hl.1 rfl (Nat.le_of_ble_eq_true rfl) dX10_relief_54 ⟨by decide, by decide⟩ ⟨Nat.zero_le _, Nat.zero_le _⟩ (fun H locs hP hS => ?_)
          refine lv_goto (tgt := 66) hx hb dX10_relief_57 (by decide) ?_
          exact g_iret hx hb hr hlk hE hP hS h dX10_relief_66
      · have h := g_iff c11 h
        refine lv_aload_n hx hb dX10_relief_31 rfl (lv_at hl 0 rfl) ?_
        refine lv_ldc hx hb hown (ht _ m_897) dX10_relief_32 ?_
        obtain ⟨r19, σ18, hcr19, h⟩ := g_bd h
        refine g_callV (As := [.int (-100006)]) (n := 1) hx hb hml hown ht (c_X10_finding l G _ _ hcr19) m_838 m_840 m_14 m_41 m_841 (by decide +kernel) (by decide) gE_101 rfl hE hP hS (fun _ h => h) (fun _ _ h => h) rfl hl.1 rfl (Nat.le_of_ble_eq_true rfl) dX10_relief_34 ⟨by decide, by decide⟩ ⟨Nat.zero_le _, Nat.zero_le _⟩ (fun H locs hP hS => ?_)
        exact g_iret hx hb hr hlk hE hP hS h dX10_relief_37
    · have h := g_ift c8 h
      refine lv_aload_n hx hb dX10_relief_15 rfl (lv_at hl 0 rfl) ?_
      refine lv_ldc hx hb hown (ht _ m_837) dX10_relief_16 ?_
      obtain ⟨r21, σ20, hcr21, h⟩ := g_bd h
      refine g_callV (As := [.int (-100001)]) (n := 1) hx hb hml hown ht (c_X10_finding l G _ _ hcr21) m_838 m_840 m_14 m_41 m_841 (by decide +kernel) (by decide) gE_101 rfl hE hP hS (fun _ h => h) (fun _ _ h => h) rfl hl.1 rfl (Nat.le_of_ble_eq_true rfl) dX10_relief_18 ⟨by decide, by decide⟩ ⟨Nat.zero_le _, Nat.zero_le _⟩ (fun H locs hP hS => ?_)
      exact g_iret hx hb hr hlk hE hP hS h dX10_relief_21

def L11_X10_week (a1 a2 : Int32) : Nat → Int32 → Int32 → gSt → (Int32 → Int32 → gSt → gO) → gO
  | 0, _, _, _, _ => none
  | nL11 + 1, l11_4, l11_3, σL11, kL11 =>
    gIx 549 1 (if (σL11 102 (1 : Int32).toNatClampNeg) ≤ l11_4 then (kL11 l11_4 l11_3 σL11) else (gBd (M_X10_listOf l11_4 a2 σL11) (fun r15 σ14 => if r15 = a1 then (gBd (M_X10_reliefOf l11_4 a2 σ14) (fun r20 σ19 => gNm ((l11_3 + r20) : Int32) (fun x21 => gNm (l11_4 + 1 : Int32) (fun x22 => L11_X10_week a1 a2 nL11 x22 x21 σ19 kL11)))) else (gNm ((l11_3 + 0) : Int32) (fun x17 => gNm (l11_4 + 1 : Int32) (fun x18 => L11_X10_week a1 a2 nL11 x18 x17 σ14 kL11))))))
def M_X10_week (a1 a2 : Int32) (σ : gSt) : gO :=
  gBd (M_X10_isParish a1 σ) (fun r2 σ1 => if r2 = 0 then (gBd (M_X10_finding (-100001) σ1) (fun r5 σ4 => some (r5, σ4))) else (gBd (M_X10_isWeek a2 σ1) (fun r7 σ6 => if r7 = 0 then (gBd (M_X10_finding (-100001) σ6) (fun r29 σ28 => some (r29, σ28))) else (gIx 549 ((489 : Int32) + a2) (if (σ6 102 ((489 : Int32) + a2).toNatClampNeg) = 0 then (gBd (M_X10_finding (-100002) σ6) (fun r27 σ26 => some (r27, σ26))) else (L11_X10_week a1 a2 gFu 0 0 σ6 (fun z23 z24 σ25 => some (z24, σ25))))))))
set_option maxHeartbeats 4000000 in
set_option maxRecDepth 100000 in
theorem c_X10_week (l : Launch) (G : gPar) (a1 a2 : Int32) (σ : gSt) {r : Int32} {σ' : gSt} (h : M_X10_week a1 a2 σ = some (r, σ')) : gC l G yX10_week cX10_week 5 (some .int) 2 48 [.ref (G.2.2.1 101), .int a1, .int a2] σ r σ' := by
  refine gC_of (by decide) (Nat.le_of_ble_eq_true rfl) ?_
  intro p e s m below meth c hx hb hr ht hown hlk hml hE hP ls hl
  have hS : va_S (gA G) s.heap s.heap [] := va_S.rf
  have hl : lv_has ls 5 [(0, .ref (G.2.2.1 101)), (1, .int a1), (2, .int a2)] := hl
  unfold M_X10_week at h
  refine lv_aload_n hx hb dX10_week_0 rfl (lv_at hl 0 rfl) ?_
  refine lv_iload_n hx hb dX10_week_1 rfl (lv_at hl 1 rfl) ?_
  obtain ⟨r2, σ1, hcr2, h⟩ := g_bd h
  refine g_callV (As := [.int a1]) (n := 1) hx hb hml hown ht (c_X10_isParish l G _ _ hcr2) m_847 m_849 m_15 m_41 m_850 (by decide +kernel) (by decide) gE_101 rfl hE hP hS (fun _ h => h) (fun _ _ h => h) rfl hl.1 rfl (Nat.le_of_ble_eq_true rfl) dX10_week_2 ⟨by decide, by decide⟩ ⟨Nat.zero_le _, Nat.zero_le _⟩ (fun H locs hP hS => ?_)
  refine lv_if_eq (tgt := 15) hx hb dX10_week_5 (by decide) (fun c3 => ?_) (fun c3 => ?_)
  · have h := g_ift c3 h
    refine lv_aload_n hx hb dX10_week_15 rfl (lv_at hl 0 rfl) ?_
    refine lv_ldc hx hb hown (ht _ m_837) dX10_week_16 ?_
    obtain ⟨r5, σ4, hcr5, h⟩ := g_bd h
    refine g_callV (As := [.int (-100001)]) (n := 1) hx hb hml hown ht (c_X10_finding l G _ _ hcr5) m_838 m_840 m_14 m_41 m_841 (by decide +kernel) (by decide) gE_101 rfl hE hP hS (fun _ h => h) (fun _ _ h => h) rfl hl.1 rfl (Nat.le_of_ble_eq_true rfl) dX10_week_18 ⟨by decide, by decide⟩ ⟨Nat.zero_le _, Nat.zero_le _⟩ (fun H locs hP hS => ?_)
    exact g_iret hx hb hr hlk hE hP hS h dX10_week_21
  · have h := g_iff c3 h
    refine lv_iload_n hx hb dX10_week_8 rfl (lv_at hl 2 rfl) ?_
    obtain ⟨r7, σ6, hcr7, h⟩ := g_bd h
    refine g_callS (As := [.int a2]) (n := 1) hx hb hml hown ht (c_X10_isWeek l G _ _ hcr7) m_987 m_988 m_41 m_989 (by decide +kernel) hE hP hS (fun _ h => h) (fun _ _ h => h) rfl hl.1 rfl (Nat.le_of_ble_eq_true rfl) dX10_week_9 ⟨by decide, by decide⟩ ⟨Nat.zero_le _, Nat.zero_le _⟩ (fun H locs hP hS => ?_)
    refine lv_if_ne (tgt := 22) hx hb dX10_week_12 (by decide) (fun c8 => ?_) (fun c8 => ?_)
    · have h := g_iff c8 h
      refine lv_aload_n hx hb dX10_week_22 rfl (lv_at hl 0 rfl) ?_
      refine g_get hx hb ht hown hE hP (by decide) gE_101 uX10 rfl 0 (by decide) m_790 rfl rfl dX10_week_23 ?_
      refine lv_sipush (v := 489) hx hb dX10_week_26 (by decide) ?_
      refine lv_iload_n hx hb dX10_week_29 rfl (lv_at hl 2 rfl) ?_
      refine lv_iadd hx hb dX10_week_30 ?_
      obtain ⟨i9, h⟩ := g_ix h
      refine g_iald hx hb hE hP (by decide) rfl (by decide) i9 dX10_week_31 ?_
      refine lv_if_ne (tgt := 42) hx hb dX10_week_32 (by decide) (fun c10 => ?_) (fun c10 => ?_)
      · have h := g_iff c10 h
        refine lv_iconst (v := 0) hx hb dX10_week_42 (by decide) ?_
        refine lv_istore_n (lv' := [(3, .int 0), (0, .ref (G.2.2.1 101)), (1, .int a1), (2, .int a2)]) hx hb dX10_week_43 rfl hl (by decide) rfl (fun ls hl => ?_)
        refine lv_iconst (v := 0) hx hb dX10_week_44 (by decide) ?_
        refine lv_istore (lv' := [(4, .int 0), (3, .int 0), (0, .ref (G.2.2.1 101)), (1, .int a1), (2, .int a2)]) hx hb dX10_week_45 hl (by decide) rfl (fun ls hl => ?_)
        have LPL11 : ∀ (kL11 : Int32 → Int32 → gSt → gO), (∀ (l11_4 l11_3 : Int32) (σL11 : gSt) (H : Heap) (locs : List Loc) (ls : Array Slot), kL11 l11_4 l11_3 σL11 = some (r, σ') → gW G σL11 H → va_S (gA G) s.heap H locs → lv_has ls 5 [(4, .int l11_4), (3, .int l11_3), (0, .ref (G.2.2.1 101)), (1, .int a1), (2, .int a2)] → W p l e (gRm 2 48) s m ([.ref (G.2.2.1 101), .int a1, .int a2].toArray) below meth c H locs 0 0 (MQ below (gQ G r σ') ([.ref (G.2.2.1 101), .int a1, .int a2].toArray) s 0 0 (gA G)) (F0 m 89 ls [])) → ∀ (nL11 : Nat) (l11_4 l11_3 : Int32) (σL11 : gSt) (H : Heap) (locs : List Loc) (ls : Array Slot), L11_X10_week a1 a2 nL11 l11_4 l11_3 σL11 kL11 = some (r, σ') → gW G σL11 H → va_S (gA G) s.heap H locs → lv_has ls 5 [(4, .int l11_4), (3, .int l11_3), (0, .ref (G.2.2.1 101)), (1, .int a1), (2, .int a2)] → W p l e (gRm 2 48) s m ([.ref (G.2.2.1 101), .int a1, .int a2].toArray) below meth c H locs 0 0 (MQ below (gQ G r σ') ([.ref (G.2.2.1 101), .int a1, .int a2].toArray) s 0 0 (gA G)) (F0 m 47 ls []) := by
          intro kL11 hKL11 nL11
          induction nL11 with
          | zero =>
            intro l11_4 l11_3 σL11 H locs ls h
            cases h
          | succ nL11 ihL11 =>
            intro l11_4 l11_3 σL11 H locs ls h hP hS hl
            rw [L11_X10_week] at h
            refine lv_iload hx hb dX10_week_47 (lv_at hl 0 rfl) ?_
            refine lv_aload_n hx hb dX10_week_49 rfl (lv_at hl 2 rfl) ?_
            refine g_get hx hb ht hown hE hP (by decide) gE_101 uX10 rfl 0 (by decide) m_790 rfl rfl dX10_week_50 ?_
            refine lv_iconst (v := 1) hx hb dX10_week_53 (by decide) ?_
            obtain ⟨i12, h⟩ := g_ix h
            refine g_iald hx hb hE hP (by decide) rfl (by decide) i12 dX10_week_54 ?_
            refine lv_icmp_ge (tgt := 89) hx hb dX10_week_55 (by decide) (fun c13 => ?_) (fun c13 => ?_)
            · have h := g_ift c13 h
              exact hKL11 _ _ _ _ _ _ h hP hS (lv_sub hl [0, 1, 2, 3, 4] rfl)
            · have h := g_iff c13 h
              refine lv_iload_n hx hb dX10_week_58 rfl (lv_at hl 1 rfl) ?_
              refine lv_aload_n hx hb dX10_week_59 rfl (lv_at hl 2 rfl) ?_
              refine lv_iload hx hb dX10_week_60 (lv_at hl 0 rfl) ?_
              refine lv_iload_n hx hb dX10_week_62 rfl (lv_at hl 4 rfl) ?_
              obtain ⟨r15, σ14, hcr15, h⟩ := g_bd h
              refine g_callV (As := [.int l11_4, .int a2]) (n := 2) hx hb hml hown ht (c_X10_listOf l G _ _ _ hcr15) m_1002 m_1004 m_27 m_41 m_1005 (by decide +kernel) (by decide) gE_101 rfl hE hP hS (fun _ h => h) (fun _ _ h => h) rfl hl.1 rfl (Nat.le_of_ble_eq_true rfl) dX10_week_63 ⟨by decide, by decide⟩ ⟨Nat.zero_le _, Nat.zero_le _⟩ (fun H locs hP hS => ?_)
              refine lv_iload_n hx hb dX10_week_66 rfl (lv_at hl 3 rfl) ?_
              refine lv_icmp_ne (tgt := 80) hx hb dX10_week_67 (by decide) (fun c16 => ?_) (fun c16 => ?_)
              · have h := g_iff c16 h
                refine lv_iconst (v := 0) hx hb dX10_week_80 (by decide) ?_
                refine lv_iadd hx hb dX10_week_81 ?_
                refine lv_topi (fun x17 ex17 => ?_)
                have h := g_nm ex17 h
                refine lv_istore_n (lv' := [(3, .int x17), (4, .int l11_4), (0, .ref (G.2.2.1 101)), (1, .int a1), (2, .int a2)]) hx hb dX10_week_82 rfl hl (by decide) rfl (fun ls hl => ?_)
                obtain ⟨x18, ex18⟩ : ∃ y : Int32, y = l11_4 + 1 := ⟨_, rfl⟩
                have h := g_nm ex18 h
                refine lv_iinc (v := x18) (lv' := [(4, .int x18), (3, .int x17), (0, .ref (G.2.2.1 101)), (1, .int a1), (2, .int a2)]) hx hb dX10_week_83 hl (k := 1) rfl (by rw [ex18]; rfl) (by decide) rfl (fun ls hl => ?_)
                refine lv_goto (tgt := 47) hx hb dX10_week_86 (by decide) ?_
                exact ihL11 _ _ _ _ _ _ h hP hS (lv_sub hl [0, 1, 2, 3, 4] rfl)
              · have h := g_ift c16 h
                refine lv_aload_n hx hb dX10_week_70 rfl (lv_at hl 2 rfl) ?_
                refine lv_iload hx hb dX10_week_71 (lv_at hl 0 rfl) ?_
                refine lv_iload_n hx hb dX10_week_73 rfl (lv_at hl 4 rfl) ?_
                obtain ⟨r20, σ19, hcr20, h⟩ := g_bd h
                refine g_callV (As := [.int l11_4, .int a2]) (n := 2) hx hb hml hown ht (c_X10_reliefOf l G _ _ _ hcr20) m_1007 m_1009 m_28 m_41 m_1010 (by decide +kernel) (by decide) gE_101 rfl hE hP hS (fun _ h => h) (fun _ _ h => h) rfl hl.1 rfl (Nat.le_of_ble_eq_true rfl) dX10_week_74 ⟨by decide, by decide⟩ ⟨Nat.zero_le _, Nat.zero_le _⟩ (fun H locs hP hS => ?_)
                refine lv_goto (tgt := 81) hx hb dX10_week_77 (by decide) ?_
                refine lv_iadd hx hb dX10_week_81 ?_
                refine lv_topi (fun x21 ex21 => ?_)
                have h := g_nm ex21 h
                refine lv_istore_n (lv' := [(3, .int x21), (4, .int l11_4), (0, .ref (G.2.2.1 101)), (1, .int a1), (2, .int a2)]) hx hb dX10_week_82 rfl hl (by decide) rfl (fun ls hl => ?_)
                obtain ⟨x22, ex22⟩ : ∃ y : Int32, y = l11_4 + 1 := ⟨_, rfl⟩
                have h := g_nm ex22 h
                refine lv_iinc (v := x22) (lv' := [(4, .int x22), (3, .int x21), (0, .ref (G.2.2.1 101)), (1, .int a1), (2, .int a2)]) hx hb dX10_week_83 hl (k := 1) rfl (by rw [ex22]; rfl) (by decide) rfl (fun ls hl => ?_)
                refine lv_goto (tgt := 47) hx hb dX10_week_86 (by decide) ?_
                exact ihL11 _ _ _ _ _ _ h hP hS (lv_sub hl [0, 1, 2, 3, 4] rfl)
        refine LPL11 _ (fun z23 z24 σ25 H locs ls h hP hS hl => ?_) gFu _ _ _ _ _ _ h hP hS (lv_sub hl [0, 1, 2, 3, 4] rfl)
        refine lv_iload_n hx hb dX10_week_89 rfl (lv_at hl 1 rfl) ?_
        exact g_iret hx hb hr hlk hE hP hS h dX10_week_90
      · have h := g_ift c10 h
        refine lv_aload_n hx hb dX10_week_35 rfl (lv_at hl 0 rfl) ?_
        refine lv_ldc hx hb hown (ht _ m_1006) dX10_week_36 ?_
        obtain ⟨r27, σ26, hcr27, h⟩ := g_bd h
        refine g_callV (As := [.int (-100002)]) (n := 1) hx hb hml hown ht (c_X10_finding l G _ _ hcr27) m_838 m_840 m_14 m_41 m_841 (by decide +kernel) (by decide) gE_101 rfl hE hP hS (fun _ h => h) (fun _ _ h => h) rfl hl.1 rfl (Nat.le_of_ble_eq_true rfl) dX10_week_38 ⟨by decide, by decide⟩ ⟨Nat.zero_le _, Nat.zero_le _⟩ (fun H locs hP hS => ?_)
        exact g_iret hx hb hr hlk hE hP hS h dX10_week_41
    · have h := g_ift c8 h
      refine lv_aload_n hx hb dX10_week_15 rfl (lv_at hl 0 rfl) ?_
      refine lv_ldc hx hb hown (ht _ m_837) dX10_week_16 ?_
      obtain ⟨r29, σ28, hcr29, h⟩ := g_bd h
      refine g_callV (As := [.int (-100001)]) (n := 1) hx hb hml hown ht (c_X10_finding l G _ _ hcr29) m_838 m_840 m_14 m_41 m_841 (by decide +kernel) (by decide) gE_101 rfl hE hP hS (fun _ h => h) (fun _ _ h => h) rfl hl.1 rfl (Nat.le_of_ble_eq_true rfl) dX10_week_18 ⟨by decide, by decide⟩ ⟨Nat.zero_le _, Nat.zero_le _⟩ (fun H locs hP hS => ?_)
      exact g_iret hx hb hr hlk hE hP hS h dX10_week_21

def L9_X10_rate (a1 a2 : Int32) : Nat → Int32 → Int32 → gSt → (Int32 → Int32 → gSt → gO) → gO
  | 0, _, _, _, _ => none
  | nL9 + 1, l9_4, l9_3, σL9, kL9 =>
    gIx 549 0 (if (σL9 102 (0 : Int32).toNatClampNeg) ≤ l9_4 then (kL9 l9_4 l9_3 σL9) else (gIx 549 ((7 : Int32) + l9_4) (gNm ((l9_3 + (σL9 102 ((7 : Int32) + l9_4).toNatClampNeg)) : Int32) (fun x13 => gNm (l9_4 + 1 : Int32) (fun x14 => L9_X10_rate a1 a2 nL9 x14 x13 σL9 kL9)))))
def L22_X10_rate (x21 z16 a1 a2 : Int32) : Nat → Int32 → Int32 → Int32 → gSt → (Int32 → Int32 → Int32 → gSt → gO) → gO
  | 0, _, _, _, _, _ => none
  | nL22 + 1, l22_7, l22_5, l22_4, σL22, kL22 =>
    gIx 549 0 (if (σL22 102 (0 : Int32).toNatClampNeg) ≤ l22_7 then (kL22 l22_7 l22_5 l22_4 σL22) else (gIx 549 ((7 : Int32) + l22_7) (gGd (¬ z16 = 0) (gNm ((l22_4 - (((σL22 102 ((7 : Int32) + l22_7).toNatClampNeg) * a2) / z16)) : Int32) (fun x27 => gIx 549 ((7 : Int32) + l22_7) (gGd (¬ z16 = 0) (gNm ((((σL22 102 ((7 : Int32) + l22_7).toNatClampNeg) * a2) - ((σL22 102 ((7 : Int32) + l22_7).toNatClampNeg) * a2) / z16 * z16) : Int32) (fun x30 => if x21 < x30 then (gNm ((l22_5 + 1) : Int32) (fun x32 => gNm (l22_7 + 1 : Int32) (fun x33 => L22_X10_rate x21 z16 a1 a2 nL22 x33 x32 x27 σL22 kL22))) else (if x30 = x21 then (if a1 ≤ l22_7 then (gNm ((l22_5 + 0) : Int32) (fun x38 => gNm (l22_7 + 1 : Int32) (fun x39 => L22_X10_rate x21 z16 a1 a2 nL22 x39 x38 x27 σL22 kL22))) else (gNm ((l22_5 + 1) : Int32) (fun x40 => gNm (l22_7 + 1 : Int32) (fun x41 => L22_X10_rate x21 z16 a1 a2 nL22 x41 x40 x27 σL22 kL22)))) else (gNm ((l22_5 + 0) : Int32) (fun x35 => gNm (l22_7 + 1 : Int32) (fun x36 => L22_X10_rate x21 z16 a1 a2 nL22 x36 x35 x27 σL22 kL22))))))))))))
def M_X10_rate (a1 a2 : Int32) (σ : gSt) : gO :=
  gBd (M_X10_isParish a1 σ) (fun r2 σ1 => if r2 = 0 then (gBd (M_X10_finding (-100001) σ1) (fun r5 σ4 => some (r5, σ4))) else (gBd (M_X10_within a2 0 10000 σ1) (fun r7 σ6 => if r7 = 0 then (gBd (M_X10_finding (-100001) σ6) (fun r52 σ51 => some (r52, σ51))) else (L9_X10_rate a1 a2 gFu 0 0 σ6 (fun z15 z16 σ17 => if z16 = 0 then (gBd (M_X10_finding (-100006) σ17) (fun r50 σ49 => some (r50, σ49))) else (gIx 549 ((7 : Int32) + a1) (gGd (¬ z16 = 0) (gNm ((((σ17 102 ((7 : Int32) + a1).toNatClampNeg) * a2) - ((σ17 102 ((7 : Int32) + a1).toNatClampNeg) * a2) / z16 * z16) : Int32) (fun x21 => L22_X10_rate x21 z16 a1 a2 gFu 0 0 a2 σ17 (fun z42 z43 z44 σ45 => gIx 549 ((7 : Int32) + a1) (gGd (¬ z16 = 0) (if z44 ≤ z43 then (some (((((σ45 102 ((7 : Int32) + a1).toNatClampNeg) * a2) / z16) + 0), σ45)) else (some (((((σ45 102 ((7 : Int32) + a1).toNatClampNeg) * a2) / z16) + 1), σ45))))))))))))))
set_option maxHeartbeats 4000000 in
set_option maxRecDepth 100000 in
theorem c_X10_rate (l : Launch) (G : gPar) (a1 a2 : Int32) (σ : gSt) {r : Int32} {σ' : gSt} (h : M_X10_rate a1 a2 σ = some (r, σ')) : gC l G yX10_rate cX10_rate 9 (some .int) 2 43 [.ref (G.2.2.1 101), .int a1, .int a2] σ r σ' := by
  refine gC_of (by decide) (Nat.le_of_ble_eq_true rfl) ?_
  intro p e s m below meth c hx hb hr ht hown hlk hml hE hP ls hl
  have hS : va_S (gA G) s.heap s.heap [] := va_S.rf
  have hl : lv_has ls 9 [(0, .ref (G.2.2.1 101)), (1, .int a1), (2, .int a2)] := hl
  unfold M_X10_rate at h
  refine lv_aload_n hx hb dX10_rate_0 rfl (lv_at hl 0 rfl) ?_
  refine lv_iload_n hx hb dX10_rate_1 rfl (lv_at hl 1 rfl) ?_
  obtain ⟨r2, σ1, hcr2, h⟩ := g_bd h
  refine g_callV (As := [.int a1]) (n := 1) hx hb hml hown ht (c_X10_isParish l G _ _ hcr2) m_847 m_849 m_15 m_41 m_850 (by decide +kernel) (by decide) gE_101 rfl hE hP hS (fun _ h => h) (fun _ _ h => h) rfl hl.1 rfl (Nat.le_of_ble_eq_true rfl) dX10_rate_2 ⟨by decide, by decide⟩ ⟨Nat.zero_le _, Nat.zero_le _⟩ (fun H locs hP hS => ?_)
  refine lv_if_eq (tgt := 19) hx hb dX10_rate_5 (by decide) (fun c3 => ?_) (fun c3 => ?_)
  · have h := g_ift c3 h
    refine lv_aload_n hx hb dX10_rate_19 rfl (lv_at hl 0 rfl) ?_
    refine lv_ldc hx hb hown (ht _ m_837) dX10_rate_20 ?_
    obtain ⟨r5, σ4, hcr5, h⟩ := g_bd h
    refine g_callV (As := [.int (-100001)]) (n := 1) hx hb hml hown ht (c_X10_finding l G _ _ hcr5) m_838 m_840 m_14 m_41 m_841 (by decide +kernel) (by decide) gE_101 rfl hE hP hS (fun _ h => h) (fun _ _ h => h) rfl hl.1 rfl (Nat.le_of_ble_eq_true rfl) dX10_rate_22 ⟨by decide, by decide⟩ ⟨Nat.zero_le _, Nat.zero_le _⟩ (fun H locs hP hS => ?_)
    exact g_iret hx hb hr hlk hE hP hS h dX10_rate_25
  · have h := g_iff c3 h
    refine lv_iload_n hx hb dX10_rate_8 rfl (lv_at hl 2 rfl) ?_
    refine lv_iconst (v := 0) hx hb dX10_rate_9 (by decide) ?_
    refine lv_sipush (v := 10000) hx hb dX10_rate_10 (by decide) ?_
    obtain ⟨r7, σ6, hcr7, h⟩ := g_bd h
    refine g_callS (As := [.int a2, .int 0, .int 10000]) (n := 3) hx hb hml hown ht (c_X10_within l G _ _ _ _ hcr7) m_834 m_835 m_41 m_836 (by decide +kernel) hE hP hS (fun _ h => h) (fun _ _ h => h) rfl hl.1 rfl (Nat.le_of_ble_eq_true rfl) dX10_rate_13 ⟨by decide, by decide⟩ ⟨Nat.zero_le _, Nat.zero_le _⟩ (fun H locs hP hS => ?_)
    refine lv_if_ne (tgt := 26) hx hb dX10_rate_16 (by decide) (fun c8 => ?_) (fun c8 => ?_)
    · have h := g_iff c8 h
      refine lv_iconst (v := 0) hx hb dX10_rate_26 (by decide) ?_
      refine lv_istore_n (lv' := [(3, .int 0), (0, .ref (G.2.2.1 101)), (1, .int a1), (2, .int a2)]) hx hb dX10_rate_27 rfl hl (by decide) rfl (fun ls hl => ?_)
      refine lv_iconst (v := 0) hx hb dX10_rate_28 (by decide) ?_
      refine lv_istore (lv' := [(4, .int 0), (3, .int 0), (0, .ref (G.2.2.1 101)), (1, .int a1), (2, .int a2)]) hx hb dX10_rate_29 hl (by decide) rfl (fun ls hl => ?_)
      have LPL9 : ∀ (kL9 : Int32 → Int32 → gSt → gO), (∀ (l9_4 l9_3 : Int32) (σL9 : gSt) (H : Heap) (locs : List Loc) (ls : Array Slot), kL9 l9_4 l9_3 σL9 = some (r, σ') → gW G σL9 H → va_S (gA G) s.heap H locs → lv_has ls 9 [(4, .int l9_4), (3, .int l9_3), (0, .ref (G.2.2.1 101)), (1, .int a1), (2, .int a2)] → W p l e (gRm 2 43) s m ([.ref (G.2.2.1 101), .int a1, .int a2].toArray) below meth c H locs 0 0 (MQ below (gQ G r σ') ([.ref (G.2.2.1 101), .int a1, .int a2].toArray) s 0 0 (gA G)) (F0 m 61 ls [])) → ∀ (nL9 : Nat) (l9_4 l9_3 : Int32) (σL9 : gSt) (H : Heap) (locs : List Loc) (ls : Array Slot), L9_X10_rate a1 a2 nL9 l9_4 l9_3 σL9 kL9 = some (r, σ') → gW G σL9 H → va_S (gA G) s.heap H locs → lv_has ls 9 [(4, .int l9_4), (3, .int l9_3), (0, .ref (G.2.2.1 101)), (1, .int a1), (2, .int a2)] → W p l e (gRm 2 43) s m ([.ref (G.2.2.1 101), .int a1, .int a2].toArray) below meth c H locs 0 0 (MQ below (gQ G r σ') ([.ref (G.2.2.1 101), .int a1, .int a2].toArray) s 0 0 (gA G)) (F0 m 31 ls []) := by
        intro kL9 hKL9 nL9
        induction nL9 with
        | zero =>
          intro l9_4 l9_3 σL9 H locs ls h
          cases h
        | succ nL9 ihL9 =>
          intro l9_4 l9_3 σL9 H locs ls h hP hS hl
          rw [L9_X10_rate] at h
          refine lv_iload hx hb dX10_rate_31 (lv_at hl 0 rfl) ?_
          refine lv_aload_n hx hb dX10_rate_33 rfl (lv_at hl 2 rfl) ?_
          refine g_get hx hb ht hown hE hP (by decide) gE_101 uX10 rfl 0 (by decide) m_790 rfl rfl dX10_rate_34 ?_
          refine lv_iconst (v := 0) hx hb dX10_rate_37 (by decide) ?_
          obtain ⟨i10, h⟩ := g_ix h
          refine g_iald hx hb hE hP (by decide) rfl (by decide) i10 dX10_rate_38 ?_
          refine lv_icmp_ge (tgt := 61) hx hb dX10_rate_39 (by decide) (fun c11 => ?_) (fun c11 => ?_)
          · have h := g_ift c11 h
            exact hKL9 _ _ _ _ _ _ h hP hS (lv_sub hl [0, 1, 2, 3, 4] rfl)
          · have h := g_iff c11 h
            refine lv_iload_n hx hb dX10_rate_42 rfl (lv_at hl 1 rfl) ?_
            refine lv_aload_n hx hb dX10_rate_43 rfl (lv_at hl 2 rfl) ?_
            refine g_get hx hb ht hown hE hP (by decide) gE_101 uX10 rfl 0 (by decide) m_790 rfl rfl dX10_rate_44 ?_
            refine lv_bipush (v := 7) hx hb dX10_rate_47 (by decide) ?_
            refine lv_iload hx hb dX10_rate_49 (lv_at hl 0 rfl) ?_
            refine lv_iadd hx hb dX10_rate_51 ?_
            obtain ⟨i12, h⟩ := g_ix h
            refine g_iald hx hb hE hP (by decide) rfl (by decide) i12 dX10_rate_52 ?_
            refine lv_iadd hx hb dX10_rate_53 ?_
            refine lv_topi (fun x13 ex13 => ?_)
            have h := g_nm ex13 h
            refine lv_istore_n (lv' := [(3, .int x13), (4, .int l9_4), (0, .ref (G.2.2.1 101)), (1, .int a1), (2, .int a2)]) hx hb dX10_rate_54 rfl hl (by decide) rfl (fun ls hl => ?_)
            obtain ⟨x14, ex14⟩ : ∃ y : Int32, y = l9_4 + 1 := ⟨_, rfl⟩
            have h := g_nm ex14 h
            refine lv_iinc (v := x14) (lv' := [(4, .int x14), (3, .int x13), (0, .ref (G.2.2.1 101)), (1, .int a1), (2, .int a2)]) hx hb dX10_rate_55 hl (k := 1) rfl (by rw [ex14]; rfl) (by decide) rfl (fun ls hl => ?_)
            refine lv_goto (tgt := 31) hx hb dX10_rate_58 (by decide) ?_
            exact ihL9 _ _ _ _ _ _ h hP hS (lv_sub hl [0, 1, 2, 3, 4] rfl)
      refine LPL9 _ (fun z15 z16 σ17 H locs ls h hP hS hl => ?_) gFu _ _ _ _ _ _ h hP hS (lv_sub hl [0, 1, 2, 3, 4] rfl)
      refine lv_iload_n hx hb dX10_rate_61 rfl (lv_at hl 1 rfl) ?_
      refine lv_if_ne (tgt := 72) hx hb dX10_rate_62 (by decide) (fun c18 => ?_) (fun c18 => ?_)
      · have h := g_iff c18 h
        refine lv_iload_n hx hb dX10_rate_72 rfl (lv_at hl 4 rfl) ?_
        refine lv_istore (lv' := [(4, .int a2), (3, .int z16), (0, .ref (G.2.2.1 101)), (1, .int a1), (2, .int a2)]) hx hb dX10_rate_73 hl (by decide) rfl (fun ls hl => ?_)
        refine lv_iconst (v := 0) hx hb dX10_rate_75 (by decide) ?_
        refine lv_istore (lv' := [(5, .int 0), (4, .int a2), (3, .int z16), (0, .ref (G.2.2.1 101)), (1, .int a1), (2, .int a2)]) hx hb dX10_rate_76 hl (by decide) rfl (fun ls hl => ?_)
        refine lv_aload_n hx hb dX10_rate_78 rfl (lv_at hl 3 rfl) ?_
        refine g_get hx hb ht hown hE hP (by decide) gE_101 uX10 rfl 0 (by decide) m_790 rfl rfl dX10_rate_79 ?_
        refine lv_bipush (v := 7) hx hb dX10_rate_82 (by decide) ?_
        refine lv_iload_n hx hb dX10_rate_84 rfl (lv_at hl 4 rfl) ?_
        refine lv_iadd hx hb dX10_rate_85 ?_
        obtain ⟨i19, h⟩ := g_ix h
        refine g_iald hx hb hE hP (by decide) rfl (by decide) i19 dX10_rate_86 ?_
        refine lv_iload_n hx hb dX10_rate_87 rfl (lv_at hl 5 rfl) ?_
        refine lv_imul hx hb dX10_rate_88 ?_
        refine lv_iload_n hx hb dX10_rate_89 rfl (lv_at hl 2 rfl) ?_
        obtain ⟨d20, h⟩ := g_gd h
        refine lv_irem hx hb dX10_rate_90 d20 ?_
        refine lv_topi (fun x21 ex21 => ?_)
        have h := g_nm ex21 h
        refine lv_istore (lv' := [(6, .int x21), (5, .int 0), (4, .int a2), (3, .int z16), (0, .ref (G.2.2.1 101)), (1, .int a1), (2, .int a2)]) hx hb dX10_rate_91 hl (by decide) rfl (fun ls hl => ?_)
        refine lv_iconst (v := 0) hx hb dX10_rate_93 (by decide) ?_
        refine lv_istore (lv' := [(7, .int 0), (6, .int x21), (5, .int 0), (4, .int a2), (3, .int z16), (0, .ref (G.2.2.1 101)), (1, .int a1), (2, .int a2)]) hx hb dX10_rate_94 hl (by decide) rfl (fun ls hl => ?_)
        have LPL22 : ∀ (kL22 : Int32 → Int32 → Int32 → gSt → gO), (∀ (l22_7 l22_5 l22_4 : Int32) (σL22 : gSt) (H : Heap) (locs : List Loc) (ls : Array Slot), kL22 l22_7 l22_5 l22_4 σL22 = some (r, σ') → gW G σL22 H → va_S (gA G) s.heap H locs → lv_has ls 9 [(7, .int l22_7), (6, .int x21), (5, .int l22_5), (4, .int l22_4), (3, .int z16), (0, .ref (G.2.2.1 101)), (1, .int a1), (2, .int a2)] → W p l e (gRm 2 43) s m ([.ref (G.2.2.1 101), .int a1, .int a2].toArray) below meth c H locs 0 0 (MQ below (gQ G r σ') ([.ref (G.2.2.1 101), .int a1, .int a2].toArray) s 0 0 (gA G)) (F0 m 178 ls [])) → ∀ (nL22 : Nat) (l22_7 l22_5 l22_4 : Int32) (σL22 : gSt) (H : Heap) (locs : List Loc) (ls : Array Slot), L22_X10_rate x21 z16 a1 a2 nL22 l22_7 l22_5 l22_4 σL22 kL22 = some (r, σ') → gW G σL22 H → va_S (gA G) s.heap H locs → lv_has ls 9 [(7, .int l22_7), (6, .int x21), (5, .int l22_5), (4, .int l22_4), (3, .int z16), (0, .ref (G.2.2.1 101)), (1, .int a1), (2, .int a2)] → W p l e (gRm 2 43) s m ([.ref (G.2.2.1 101), .int a1, .int a2].toArray) below meth c H locs 0 0 (MQ below (gQ G r σ') ([.ref (G.2.2.1 101), .int a1, .int a2].toArray) s 0 0 (gA G)) (F0 m 96 ls []) := by
          intro kL22 hKL22 nL22
          induction nL22 with
          | zero =>
            intro l22_7 l22_5 l22_4 σL22 H locs ls h
            cases h
          | succ nL22 ihL22 =>
            intro l22_7 l22_5 l22_4 σL22 H locs ls h hP hS hl
            rw [L22_X10_rate] at h
            refine lv_iload hx hb dX10_rate_96 (lv_at hl 0 rfl) ?_
            refine lv_aload_n hx hb dX10_rate_98 rfl (lv_at hl 5 rfl) ?_
            refine g_get hx hb ht hown hE hP (by decide) gE_101 uX10 rfl 0 (by decide) m_790 rfl rfl dX10_rate_99 ?_
            refine lv_iconst (v := 0) hx hb dX10_rate_102 (by decide) ?_
            obtain ⟨i23, h⟩ := g_ix h
            refine g_iald hx hb hE hP (by decide) rfl (by decide) i23 dX10_rate_103 ?_
            refine lv_icmp_ge (tgt := 178) hx hb dX10_rate_104 (by decide) (fun c24 => ?_) (fun c24 => ?_)
            · have h := g_ift c24 h
              exact hKL22 _ _ _ _ _ _ _ h hP hS (lv_sub hl [0, 1, 2, 3, 4, 5, 6, 7] rfl)
            · have h := g_iff c24 h
              refine lv_iload hx hb dX10_rate_107 (lv_at hl 3 rfl) ?_
              refine lv_aload_n hx hb dX10_rate_109 rfl (lv_at hl 5 rfl) ?_
              refine g_get hx hb ht hown hE hP (by decide) gE_101 uX10 rfl 0 (by decide) m_790 rfl rfl dX10_rate_110 ?_
              refine lv_bipush (v := 7) hx hb dX10_rate_113 (by decide) ?_
              refine lv_iload hx hb dX10_rate_115 (lv_at hl 0 rfl) ?_
              refine lv_iadd hx hb dX10_rate_117 ?_
              obtain ⟨i25, h⟩ := g_ix h
              refine g_iald hx hb hE hP (by decide) rfl (by decide) i25 dX10_rate_118 ?_
              refine lv_iload_n hx hb dX10_rate_119 rfl (lv_at hl 7 rfl) ?_
              refine lv_imul hx hb dX10_rate_120 ?_
              refine lv_iload_n hx hb dX10_rate_121 rfl (lv_at hl 4 rfl) ?_
              obtain ⟨d26, h⟩ := g_gd h
              refine lv_idiv hx hb dX10_rate_122 d26 ?_
              refine lv_isub hx hb dX10_rate_123 ?_
              refine lv_topi (fun x27 ex27 => ?_)
              have h := g_nm ex27 h
              refine lv_istore (lv' := [(4, .int x27), (7, .int l22_7), (6, .int x21), (5, .int l22_5), (3, .int z16), (0, .ref (G.2.2.1 101)), (1, .int a1), (2, .int a2)]) hx hb dX10_rate_124 hl (by decide) rfl (fun ls hl => ?_)
              refine lv_aload_n hx hb dX10_rate_126 rfl (lv_at hl 5 rfl) ?_
              refine g_get hx hb ht hown hE hP (by decide) gE_101 uX10 rfl 0 (by decide) m_790 rfl rfl dX10_rate_127 ?_
              refine lv_bipush (v := 7) hx hb dX10_rate_130 (by decide) ?_
              refine lv_iload hx hb dX10_rate_132 (lv_at hl 1 rfl) ?_
              refine lv_iadd hx hb dX10_rate_134 ?_
              obtain ⟨i28, h⟩ := g_ix h
              refine g_iald hx hb hE hP (by decide) rfl (by decide) i28 dX10_rate_135 ?_
              refine lv_iload_n hx hb dX10_rate_136 rfl (lv_at hl 7 rfl) ?_
              refine lv_imul hx hb dX10_rate_137 ?_
              refine lv_iload_n hx hb dX10_rate_138 rfl (lv_at hl 4 rfl) ?_
              obtain ⟨d29, h⟩ := g_gd h
              refine lv_irem hx hb dX10_rate_139 d29 ?_
              refine lv_topi (fun x30 ex30 => ?_)
              have h := g_nm ex30 h
              refine lv_istore (lv' := [(8, .int x30), (4, .int x27), (7, .int l22_7), (6, .int x21), (5, .int l22_5), (3, .int z16), (0, .ref (G.2.2.1 101)), (1, .int a1), (2, .int a2)]) hx hb dX10_rate_140 hl (by decide) rfl (fun ls hl => ?_)
              refine lv_iload hx hb dX10_rate_142 (lv_at hl 4 rfl) ?_
              refine lv_iload hx hb dX10_rate_144 (lv_at hl 0 rfl) ?_
              refine lv_iload hx hb dX10_rate_146 (lv_at hl 3 rfl) ?_
              refine lv_icmp_gt (tgt := 164) hx hb dX10_rate_148 (by decide) (fun c31 => ?_) (fun c31 => ?_)
              · have h := g_ift c31 h
                refine lv_iconst (v := 1) hx hb dX10_rate_164 (by decide) ?_
                refine lv_goto (tgt := 169) hx hb dX10_rate_165 (by decide) ?_
                refine lv_iadd hx hb dX10_rate_169 ?_
                refine lv_topi (fun x32 ex32 => ?_)
                have h := g_nm ex32 h
                refine lv_istore (lv' := [(5, .int x32), (8, .int x30), (4, .int x27), (7, .int l22_7), (6, .int x21), (3, .int z16), (0, .ref (G.2.2.1 101)), (1, .int a1), (2, .int a2)]) hx hb dX10_rate_170 hl (by decide) rfl (fun ls hl => ?_)
                obtain ⟨x33, ex33⟩ : ∃ y : Int32, y = l22_7 + 1 := ⟨_, rfl⟩
                have h := g_nm ex33 h
                refine lv_iinc (v := x33) (lv' := [(7, .int x33), (5, .int x32), (8, .int x30), (4, .int x27), (6, .int x21), (3, .int z16), (0, .ref (G.2.2.1 101)), (1, .int a1), (2, .int a2)]) hx hb dX10_rate_172 hl (k := 3) rfl (by rw [ex33]; rfl) (by decide) rfl (fun ls hl => ?_)
                refine lv_goto (tgt := 96) hx hb dX10_rate_175 (by decide) ?_
                exact ihL22 _ _ _ _ _ _ _ h hP hS (lv_sub hl [0, 4, 1, 3, 5, 6, 7, 8] rfl)
              · have h := g_iff c31 h
                refine lv_iload hx hb dX10_rate_151 (lv_at hl 0 rfl) ?_
                refine lv_iload hx hb dX10_rate_153 (lv_at hl 3 rfl) ?_
                refine lv_icmp_ne (tgt := 168) hx hb dX10_rate_155 (by decide) (fun c34 => ?_) (fun c34 => ?_)
                · have h := g_iff c34 h
                  refine lv_iconst (v := 0) hx hb dX10_rate_168 (by decide) ?_
                  refine lv_iadd hx hb dX10_rate_169 ?_
                  refine lv_topi (fun x35 ex35 => ?_)
                  have h := g_nm ex35 h
                  refine lv_istore (lv' := [(5, .int x35), (8, .int x30), (4, .int x27), (7, .int l22_7), (6, .int x21), (3, .int z16), (0, .ref (G.2.2.1 101)), (1, .int a1), (2, .int a2)]) hx hb dX10_rate_170 hl (by decide) rfl (fun ls hl => ?_)
                  obtain ⟨x36, ex36⟩ : ∃ y : Int32, y = l22_7 + 1 := ⟨_, rfl⟩
                  have h := g_nm ex36 h
                  refine lv_iinc (v := x36) (lv' := [(7, .int x36), (5, .int x35), (8, .int x30), (4, .int x27), (6, .int x21), (3, .int z16), (0, .ref (G.2.2.1 101)), (1, .int a1), (2, .int a2)]) hx hb dX10_rate_172 hl (k := 3) rfl (by rw [ex36]; rfl) (by decide) rfl (fun ls hl => ?_)
                  refine lv_goto (tgt := 96) hx hb dX10_rate_175 (by decide) ?_
                  exact ihL22 _ _ _ _ _ _ _ h hP hS (lv_sub hl [0, 4, 1, 3, 5, 6, 7, 8] rfl)
                · have h := g_ift c34 h
                  refine lv_iload hx hb dX10_rate_158 (lv_at hl 2 rfl) ?_
                  refine lv_iload_n hx hb dX10_rate_160 rfl (lv_at hl 7 rfl) ?_
                  refine lv_icmp_ge (tgt := 168) hx hb dX10_rate_161 (by decide) (fun c37 => ?_) (fun c37 => ?_)
                  · have h := g_ift c37 h
                    refine lv_iconst (v := 0) hx hb dX10_rate_168 (by decide) ?_
                    refine lv_iadd hx hb dX10_rate_169 ?_
                    refine lv_topi (fun x38 ex38 => ?_)
                    have h := g_nm ex38 h
                    refine lv_istore (lv' := [(5, .int x38), (8, .int x30), (4, .int x27), (7, .int l22_7), (6, .int x21), (3, .int z16), (0, .ref (G.2.2.1 101)), (1, .int a1), (2, .int a2)]) hx hb dX10_rate_170 hl (by decide) rfl (fun ls hl => ?_)
                    obtain ⟨x39, ex39⟩ : ∃ y : Int32, y = l22_7 + 1 := ⟨_, rfl⟩
                    have h := g_nm ex39 h
                    refine lv_iinc (v := x39) (lv' := [(7, .int x39), (5, .int x38), (8, .int x30), (4, .int x27), (6, .int x21), (3, .int z16), (0, .ref (G.2.2.1 101)), (1, .int a1), (2, .int a2)]) hx hb dX10_rate_172 hl (k := 3) rfl (by rw [ex39]; rfl) (by decide) rfl (fun ls hl => ?_)
                    refine lv_goto (tgt := 96) hx hb dX10_rate_175 (by decide) ?_
                    exact ihL22 _ _ _ _ _ _ _ h hP hS (lv_sub hl [0, 4, 1, 3, 5, 6, 7, 8] rfl)
                  · have h := g_iff c37 h
                    refine lv_iconst (v := 1) hx hb dX10_rate_164 (by decide) ?_
                    refine lv_goto (tgt := 169) hx hb dX10_rate_165 (by decide) ?_
                    refine lv_iadd hx hb dX10_rate_169 ?_
                    refine lv_topi (fun x40 ex40 => ?_)
                    have h := g_nm ex40 h
                    refine lv_istore (lv' := [(5, .int x40), (8, .int x30), (4, .int x27), (7, .int l22_7), (6, .int x21), (3, .int z16), (0, .ref (G.2.2.1 101)), (1, .int a1), (2, .int a2)]) hx hb dX10_rate_170 hl (by decide) rfl (fun ls hl => ?_)
                    obtain ⟨x41, ex41⟩ : ∃ y : Int32, y = l22_7 + 1 := ⟨_, rfl⟩
                    have h := g_nm ex41 h
                    refine lv_iinc (v := x41) (lv' := [(7, .int x41), (5, .int x40), (8, .int x30), (4, .int x27), (6, .int x21), (3, .int z16), (0, .ref (G.2.2.1 101)), (1, .int a1), (2, .int a2)]) hx hb dX10_rate_172 hl (k := 3) rfl (by rw [ex41]; rfl) (by decide) rfl (fun ls hl => ?_)
                    refine lv_goto (tgt := 96) hx hb dX10_rate_175 (by decide) ?_
                    exact ihL22 _ _ _ _ _ _ _ h hP hS (lv_sub hl [0, 4, 1, 3, 5, 6, 7, 8] rfl)
        refine LPL22 _ (fun z42 z43 z44 σ45 H locs ls h hP hS hl => ?_) gFu _ _ _ _ _ _ _ h hP hS (lv_sub hl [0, 1, 2, 3, 4, 5, 6, 7] rfl)
        refine lv_aload_n hx hb dX10_rate_178 rfl (lv_at hl 5 rfl) ?_
        refine g_get hx hb ht hown hE hP (by decide) gE_101 uX10 rfl 0 (by decide) m_790 rfl rfl dX10_rate_179 ?_
        refine lv_bipush (v := 7) hx hb dX10_rate_182 (by decide) ?_
        refine lv_iload_n hx hb dX10_rate_184 rfl (lv_at hl 6 rfl) ?_
        refine lv_iadd hx hb dX10_rate_185 ?_
        obtain ⟨i46, h⟩ := g_ix h
        refine g_iald hx hb hE hP (by decide) rfl (by decide) i46 dX10_rate_186 ?_
        refine lv_iload_n hx hb dX10_rate_187 rfl (lv_at hl 7 rfl) ?_
        refine lv_imul hx hb dX10_rate_188 ?_
        refine lv_iload_n hx hb dX10_rate_189 rfl (lv_at hl 4 rfl) ?_
        obtain ⟨d47, h⟩ := g_gd h
        refine lv_idiv hx hb dX10_rate_190 d47 ?_
        refine lv_iload hx hb dX10_rate_191 (lv_at hl 2 rfl) ?_
        refine lv_iload hx hb dX10_rate_193 (lv_at hl 3 rfl) ?_
        refine lv_icmp_ge (tgt := 202) hx hb dX10_rate_195 (by decide) (fun c48 => ?_) (fun c48 => ?_)
        · have h := g_ift c48 h
          refine lv_iconst (v := 0) hx hb dX10_rate_202 (by decide) ?_
          refine lv_iadd hx hb dX10_rate_203 ?_
          exact g_iret hx hb hr hlk hE hP hS h dX10_rate_204
        · have h := g_iff c48 h
          refine lv_iconst (v := 1) hx hb dX10_rate_198 (by decide) ?_
          refine lv_goto (tgt := 203) hx hb dX10_rate_199 (by decide) ?_
          refine lv_iadd hx hb dX10_rate_203 ?_
          exact g_iret hx hb hr hlk hE hP hS h dX10_rate_204
      · have h := g_ift c18 h
        refine lv_aload_n hx hb dX10_rate_65 rfl (lv_at hl 2 rfl) ?_
        refine lv_ldc hx hb hown (ht _ m_897) dX10_rate_66 ?_
        obtain ⟨r50, σ49, hcr50, h⟩ := g_bd h
        refine g_callV (As := [.int (-100006)]) (n := 1) hx hb hml hown ht (c_X10_finding l G _ _ hcr50) m_838 m_840 m_14 m_41 m_841 (by decide +kernel) (by decide) gE_101 rfl hE hP hS (fun _ h => h) (fun _ _ h => h) rfl hl.1 rfl (Nat.le_of_ble_eq_true rfl) dX10_rate_68 ⟨by decide, by decide⟩ ⟨Nat.zero_le _, Nat.zero_le _⟩ (fun H locs hP hS => ?_)
        exact g_iret hx hb hr hlk hE hP hS h dX10_rate_71
    · have h := g_ift c8 h
      refine lv_aload_n hx hb dX10_rate_19 rfl (lv_at hl 0 rfl) ?_
      refine lv_ldc hx hb hown (ht _ m_837) dX10_rate_20 ?_
      obtain ⟨r52, σ51, hcr52, h⟩ := g_bd h
      refine g_callV (As := [.int (-100001)]) (n := 1) hx hb hml hown ht (c_X10_finding l G _ _ hcr52) m_838 m_840 m_14 m_41 m_841 (by decide +kernel) (by decide) gE_101 rfl hE hP hS (fun _ h => h) (fun _ _ h => h) rfl hl.1 rfl (Nat.le_of_ble_eq_true rfl) dX10_rate_22 ⟨by decide, by decide⟩ ⟨Nat.zero_le _, Nat.zero_le _⟩ (fun H locs hP hS => ?_)
      exact g_iret hx hb hr hlk hE hP hS h dX10_rate_25

def M_X10_isSheet (a1 : Int32) (σ : gSt) : gO :=
  gBd (M_X10_within a1 0 3 σ) (fun r2 σ1 => gGd (r2 = 0 ∨ r2 = 1) (some (r2, σ1)))
set_option maxHeartbeats 4000000 in
set_option maxRecDepth 100000 in
theorem c_X10_isSheet (l : Launch) (G : gPar) (a1 : Int32) (σ : gSt) {r : Int32} {σ' : gSt} (h : M_X10_isSheet a1 σ = some (r, σ')) : gC l G yX10_isSheet cX10_isSheet 1 (some .boolean) 1 22 [.int a1] σ r σ' := by
  refine gC_of (by decide) (Nat.le_of_ble_eq_true rfl) ?_
  intro p e s m below meth c hx hb hr ht hown hlk hml hE hP ls hl
  have hS : va_S (gA G) s.heap s.heap [] := va_S.rf
  have hl : lv_has ls 1 [(0, .int a1)] := hl
  unfold M_X10_isSheet at h
  refine lv_iload_n hx hb dX10_isSheet_0 rfl (lv_at hl 0 rfl) ?_
  refine lv_iconst (v := 0) hx hb dX10_isSheet_1 (by decide) ?_
  refine lv_iconst (v := 3) hx hb dX10_isSheet_2 (by decide) ?_
  obtain ⟨r2, σ1, hcr2, h⟩ := g_bd h
  refine g_callS (As := [.int a1, .int 0, .int 3]) (n := 3) hx hb hml hown ht (c_X10_within l G _ _ _ _ hcr2) m_834 m_835 m_41 m_836 (by decide +kernel) hE hP hS (fun _ h => h) (fun _ _ h => h) rfl hl.1 rfl (Nat.le_of_ble_eq_true rfl) dX10_isSheet_3 ⟨by decide, by decide⟩ ⟨Nat.zero_le _, Nat.zero_le _⟩ (fun H locs hP hS => ?_)
  obtain ⟨z3, h⟩ := g_gd h
  exact g_zret hx hb hr hlk hE hP hS z3 h dX10_isSheet_6

def L14_X10_sheet (a1 a2 a3 : Int32) : Nat → Int32 → gSt → (Int32 → gSt → gO) → gO
  | 0, _, _, _ => none
  | nL14 + 1, l14_4, σL14, kL14 =>
    if 60 ≤ l14_4 then (kL14 l14_4 σL14) else (gIx 240 (((60 : Int32) * a1) + l14_4) (gNm (gUp σL14 106 (((60 : Int32) * a1) + l14_4).toNatClampNeg 0) (fun σ17 => gNm (l14_4 + 1 : Int32) (fun x18 => L14_X10_sheet a1 a2 a3 nL14 x18 σ17 kL14))))
def L24_X10_sheet (a1 a2 a3 : Int32) : Nat → Int32 → gSt → (Int32 → gSt → gO) → gO
  | 0, _, _, _ => none
  | nL24 + 1, l24_4, σL24, kL24 =>
    if 60 ≤ l24_4 then (kL24 l24_4 σL24) else (gIx 240 (((60 : Int32) * a1) + l24_4) (gNm (gUp σL24 106 (((60 : Int32) * a1) + l24_4).toNatClampNeg 0) (fun σ27 => gNm (l24_4 + 1 : Int32) (fun x28 => L24_X10_sheet a1 a2 a3 nL24 x28 σ27 kL24))))
def L44_X10_sheet (a1 a2 a3 : Int32) : Nat → Int32 → gSt → (Int32 → gSt → gO) → gO
  | 0, _, _, _ => none
  | nL44 + 1, l44_4, σL44, kL44 =>
    if 60 ≤ l44_4 then (kL44 l44_4 σL44) else (gIx 240 (((60 : Int32) * a1) + l44_4) (gNm (gUp σL44 106 (((60 : Int32) * a1) + l44_4).toNatClampNeg 0) (fun σ47 => gNm (l44_4 + 1 : Int32) (fun x48 => L44_X10_sheet a1 a2 a3 nL44 x48 σ47 kL44))))
def L54_X10_sheet (a1 a2 a3 : Int32) : Nat → Int32 → gSt → (Int32 → gSt → gO) → gO
  | 0, _, _, _ => none
  | nL54 + 1, l54_4, σL54, kL54 =>
    if 60 ≤ l54_4 then (kL54 l54_4 σL54) else (gIx 240 (((60 : Int32) * a1) + l54_4) (gNm (gUp σL54 106 (((60 : Int32) * a1) + l54_4).toNatClampNeg 0) (fun σ57 => gNm (l54_4 + 1 : Int32) (fun x58 => L54_X10_sheet a1 a2 a3 nL54 x58 σ57 kL54))))
def L74_X10_sheet (a1 a2 a3 : Int32) : Nat → Int32 → gSt → (Int32 → gSt → gO) → gO
  | 0, _, _, _ => none
  | nL74 + 1, l74_4, σL74, kL74 =>
    if 60 ≤ l74_4 then (kL74 l74_4 σL74) else (gIx 240 (((60 : Int32) * a1) + l74_4) (gNm (gUp σL74 106 (((60 : Int32) * a1) + l74_4).toNatClampNeg 0) (fun σ77 => gNm (l74_4 + 1 : Int32) (fun x78 => L74_X10_sheet a1 a2 a3 nL74 x78 σ77 kL74))))
def L84_X10_sheet (a1 a2 a3 : Int32) : Nat → Int32 → gSt → (Int32 → gSt → gO) → gO
  | 0, _, _, _ => none
  | nL84 + 1, l84_4, σL84, kL84 =>
    if 60 ≤ l84_4 then (kL84 l84_4 σL84) else (gIx 240 (((60 : Int32) * a1) + l84_4) (gNm (gUp σL84 106 (((60 : Int32) * a1) + l84_4).toNatClampNeg 0) (fun σ87 => gNm (l84_4 + 1 : Int32) (fun x88 => L84_X10_sheet a1 a2 a3 nL84 x88 σ87 kL84))))
def L104_X10_sheet (a1 a2 a3 : Int32) : Nat → Int32 → gSt → (Int32 → gSt → gO) → gO
  | 0, _, _, _ => none
  | nL104 + 1, l104_4, σL104, kL104 =>
    if 60 ≤ l104_4 then (kL104 l104_4 σL104) else (gIx 240 (((60 : Int32) * a1) + l104_4) (gNm (gUp σL104 106 (((60 : Int32) * a1) + l104_4).toNatClampNeg 0) (fun σ107 => gNm (l104_4 + 1 : Int32) (fun x108 => L104_X10_sheet a1 a2 a3 nL104 x108 σ107 kL104))))
def L114_X10_sheet (a1 a2 a3 : Int32) : Nat → Int32 → gSt → (Int32 → gSt → gO) → gO
  | 0, _, _, _ => none
  | nL114 + 1, l114_4, σL114, kL114 =>
    if 60 ≤ l114_4 then (kL114 l114_4 σL114) else (gIx 240 (((60 : Int32) * a1) + l114_4) (gNm (gUp σL114 106 (((60 : Int32) * a1) + l114_4).toNatClampNeg 0) (fun σ117 => gNm (l114_4 + 1 : Int32) (fun x118 => L114_X10_sheet a1 a2 a3 nL114 x118 σ117 kL114))))
def M_X10_sheet (a1 a2 a3 : Int32) (σ : gSt) : gO :=
  gBd (M_X10_isSheet a1 σ) (fun r2 σ1 => if r2 = 0 then (gBd (M_X10_finding (-100001) σ1) (fun r5 σ4 => some (r5, σ4))) else (if a2 = 0 then (if 0 ≤ a3 then (if a3 ≤ 60 then (gIx 4 a1 (gNm (gUp σ1 104 a1.toNatClampNeg a2) (fun σ10 => if a2 = 0 then (gIx 4 a1 (gNm (gUp σ10 105 a1.toNatClampNeg 0) (fun σ23 => L24_X10_sheet a1 a2 a3 gFu 0 σ23 (fun z29 σ30 => gIx 4 a1 (some ((σ30 105 a1.toNatClampNeg), σ30)))))) else (gIx 4 a1 (gNm (gUp σ10 105 a1.toNatClampNeg a3) (fun σ13 => L14_X10_sheet a1 a2 a3 gFu 0 σ13 (fun z19 σ20 => gIx 4 a1 (some ((σ20 105 a1.toNatClampNeg), σ20))))))))) else (gBd (M_X10_finding (-100001) σ1) (fun r33 σ32 => some (r33, σ32)))) else (gBd (M_X10_finding (-100003) σ1) (fun r35 σ34 => some (r35, σ34)))) else (if a2 = 8 then (if 0 ≤ a3 then (if a3 ≤ 60 then (gIx 4 a1 (gNm (gUp σ1 104 a1.toNatClampNeg a2) (fun σ40 => if a2 = 0 then (gIx 4 a1 (gNm (gUp σ40 105 a1.toNatClampNeg 0) (fun σ53 => L54_X10_sheet a1 a2 a3 gFu 0 σ53 (fun z59 σ60 => gIx 4 a1 (some ((σ60 105 a1.toNatClampNeg), σ60)))))) else (gIx 4 a1 (gNm (gUp σ40 105 a1.toNatClampNeg a3) (fun σ43 => L44_X10_sheet a1 a2 a3 gFu 0 σ43 (fun z49 σ50 => gIx 4 a1 (some ((σ50 105 a1.toNatClampNeg), σ50))))))))) else (gBd (M_X10_finding (-100001) σ1) (fun r63 σ62 => some (r63, σ62)))) else (gBd (M_X10_finding (-100003) σ1) (fun r65 σ64 => some (r65, σ64)))) else (if a2 = 16 then (if 0 ≤ a3 then (if a3 ≤ 60 then (gIx 4 a1 (gNm (gUp σ1 104 a1.toNatClampNeg a2) (fun σ70 => if a2 = 0 then (gIx 4 a1 (gNm (gUp σ70 105 a1.toNatClampNeg 0) (fun σ83 => L84_X10_sheet a1 a2 a3 gFu 0 σ83 (fun z89 σ90 => gIx 4 a1 (some ((σ90 105 a1.toNatClampNeg), σ90)))))) else (gIx 4 a1 (gNm (gUp σ70 105 a1.toNatClampNeg a3) (fun σ73 => L74_X10_sheet a1 a2 a3 gFu 0 σ73 (fun z79 σ80 => gIx 4 a1 (some ((σ80 105 a1.toNatClampNeg), σ80))))))))) else (gBd (M_X10_finding (-100001) σ1) (fun r93 σ92 => some (r93, σ92)))) else (gBd (M_X10_finding (-100003) σ1) (fun r95 σ94 => some (r95, σ94)))) else (if a2 = 32 then (if 0 ≤ a3 then (if a3 ≤ 60 then (gIx 4 a1 (gNm (gUp σ1 104 a1.toNatClampNeg a2) (fun σ100 => if a2 = 0 then (gIx 4 a1 (gNm (gUp σ100 105 a1.toNatClampNeg 0) (fun σ113 => L114_X10_sheet a1 a2 a3 gFu 0 σ113 (fun z119 σ120 => gIx 4 a1 (some ((σ120 105 a1.toNatClampNeg), σ120)))))) else (gIx 4 a1 (gNm (gUp σ100 105 a1.toNatClampNeg a3) (fun σ103 => L104_X10_sheet a1 a2 a3 gFu 0 σ103 (fun z109 σ110 => gIx 4 a1 (some ((σ110 105 a1.toNatClampNeg), σ110))))))))) else (gBd (M_X10_finding (-100001) σ1) (fun r123 σ122 => some (r123, σ122)))) else (gBd (M_X10_finding (-100003) σ1) (fun r125 σ124 => some (r125, σ124)))) else (gBd (M_X10_finding (-100001) σ1) (fun r127 σ126 => some (r127, σ126))))))))
set_option maxHeartbeats 4000000 in
set_option maxRecDepth 100000 in
theorem c_X10_sheet (l : Launch) (G : gPar) (a1 a2 a3 : Int32) (σ : gSt) {r : Int32} {σ' : gSt} (h : M_X10_sheet a1 a2 a3 σ = some (r, σ')) : gC l G yX10_sheet cX10_sheet 5 (some .int) 2 42 [.ref (G.2.2.1 101), .int a1, .int a2, .int a3] σ r σ' := by
  refine gC_of (by decide) (Nat.le_of_ble_eq_true rfl) ?_
  intro p e s m below meth c hx hb hr ht hown hlk hml hE hP ls hl
  have hS : va_S (gA G) s.heap s.heap [] := va_S.rf
  have hl : lv_has ls 5 [(0, .ref (G.2.2.1 101)), (1, .int a1), (2, .int a2), (3, .int a3)] := hl
  unfold M_X10_sheet at h
  refine lv_iload_n hx hb dX10_sheet_0 rfl (lv_at hl 1 rfl) ?_
  obtain ⟨r2, σ1, hcr2, h⟩ := g_bd h
  refine g_callS (As := [.int a1]) (n := 1) hx hb hml hown ht (c_X10_isSheet l G _ _ hcr2) m_1027 m_1028 m_41 m_1029 (by decide +kernel) hE hP hS (fun _ h => h) (fun _ _ h => h) rfl hl.1 rfl (Nat.le_of_ble_eq_true rfl) dX10_sheet_1 ⟨by decide, by decide⟩ ⟨Nat.zero_le _, Nat.zero_le _⟩ (fun H locs hP hS => ?_)
  refine lv_if_eq (tgt := 29) hx hb dX10_sheet_4 (by decide) (fun c3 => ?_) (fun c3 => ?_)
  · have h := g_ift c3 h
    refine lv_aload_n hx hb dX10_sheet_29 rfl (lv_at hl 0 rfl) ?_
    refine lv_ldc hx hb hown (ht _ m_837) dX10_sheet_30 ?_
    obtain ⟨r5, σ4, hcr5, h⟩ := g_bd h
    refine g_callV (As := [.int (-100001)]) (n := 1) hx hb hml hown ht (c_X10_finding l G _ _ hcr5) m_838 m_840 m_14 m_41 m_841 (by decide +kernel) (by decide) gE_101 rfl hE hP hS (fun _ h => h) (fun _ _ h => h) rfl hl.1 rfl (Nat.le_of_ble_eq_true rfl) dX10_sheet_32 ⟨by decide, by decide⟩ ⟨Nat.zero_le _, Nat.zero_le _⟩ (fun H locs hP hS => ?_)
    exact g_iret hx hb hr hlk hE hP hS h dX10_sheet_35
  · have h := g_iff c3 h
    refine lv_iload_n hx hb dX10_sheet_7 rfl (lv_at hl 2 rfl) ?_
    refine lv_if_eq (tgt := 36) hx hb dX10_sheet_8 (by decide) (fun c6 => ?_) (fun c6 => ?_)
    · have h := g_ift c6 h
      refine lv_iload_n hx hb dX10_sheet_36 rfl (lv_at hl 3 rfl) ?_
      refine lv_if_ge (tgt := 47) hx hb dX10_sheet_37 (by decide) (fun c7 => ?_) (fun c7 => ?_)
      · have h := g_ift c7 h
        refine lv_iload_n hx hb dX10_sheet_47 rfl (lv_at hl 3 rfl) ?_
        refine lv_bipush (v := 60) hx hb dX10_sheet_48 (by decide) ?_
        refine lv_icmp_le (tgt := 60) hx hb dX10_sheet_50 (by decide) (fun c8 => ?_) (fun c8 => ?_)
        · have h := g_ift c8 h
          refine lv_aload_n hx hb dX10_sheet_60 rfl (lv_at hl 0 rfl) ?_
          refine g_get hx hb ht hown hE hP (by decide) gE_101 uX10 rfl 4 (by decide) m_794 rfl rfl dX10_sheet_61 ?_
          refine lv_iload_n hx hb dX10_sheet_64 rfl (lv_at hl 1 rfl) ?_
          refine lv_iload_n hx hb dX10_sheet_65 rfl (lv_at hl 2 rfl) ?_
          obtain ⟨i9, h⟩ := g_ix h
          refine g_iast hx hb hE hP hS (by decide) rfl (by decide) i9 dX10_sheet_66 (fun H locs σ10 eσ10 hP hS => ?_)
          have h := g_nm eσ10 h
          refine lv_aload_n hx hb dX10_sheet_67 rfl (lv_at hl 0 rfl) ?_
          refine g_get hx hb ht hown hE hP (by decide) gE_101 uX10 rfl 5 (by decide) m_795 rfl rfl dX10_sheet_68 ?_
          refine lv_iload_n hx hb dX10_sheet_71 rfl (lv_at hl 1 rfl) ?_
          refine lv_iload_n hx hb dX10_sheet_72 rfl (lv_at hl 2 rfl) ?_
          refine lv_if_ne (tgt := 80) hx hb dX10_sheet_73 (by decide) (fun c11 => ?_) (fun c11 => ?_)
          · have h := g_iff c11 h
            refine lv_iload_n hx hb dX10_sheet_80 rfl (lv_at hl 3 rfl) ?_
            obtain ⟨i12, h⟩ := g_ix h
            refine g_iast hx hb hE hP hS (by decide) rfl (by decide) i12 dX10_sheet_81 (fun H locs σ13 eσ13 hP hS => ?_)
            have h := g_nm eσ13 h
            refine lv_iconst (v := 0) hx hb dX10_sheet_82 (by decide) ?_
            refine lv_istore (lv' := [(4, .int 0), (0, .ref (G.2.2.1 101)), (1, .int a1), (2, .int a2), (3, .int a3)]) hx hb dX10_sheet_83 hl (by decide) rfl (fun ls hl => ?_)
            have LPL14 : ∀ (kL14 : Int32 → gSt → gO), (∀ (l14_4 : Int32) (σL14 : gSt) (H : Heap) (locs : List Loc) (ls : Array Slot), kL14 l14_4 σL14 = some (r, σ') → gW G σL14 H → va_S (gA G) s.heap H locs → lv_has ls 5 [(4, .int l14_4), (0, .ref (G.2.2.1 101)), (1, .int a1), (2, .int a2), (3, .int a3)] → W p l e (gRm 2 42) s m ([.ref (G.2.2.1 101), .int a1, .int a2, .int a3].toArray) below meth c H locs 0 0 (MQ below (gQ G r σ') ([.ref (G.2.2.1 101), .int a1, .int a2, .int a3].toArray) s 0 0 (gA G)) (F0 m 111 ls [])) → ∀ (nL14 : Nat) (l14_4 : Int32) (σL14 : gSt) (H : Heap) (locs : List Loc) (ls : Array Slot), L14_X10_sheet a1 a2 a3 nL14 l14_4 σL14 kL14 = some (r, σ') → gW G σL14 H → va_S (gA G) s.heap H locs → lv_has ls 5 [(4, .int l14_4), (0, .ref (G.2.2.1 101)), (1, .int a1), (2, .int a2), (3, .int a3)] → W p l e (gRm 2 42) s m ([.ref (G.2.2.1 101), .int a1, .int a2, .int a3].toArray) below meth c H locs 0 0 (MQ below (gQ G r σ') ([.ref (G.2.2.1 101), .int a1, .int a2, .int a3].toArray) s 0 0 (gA G)) (F0 m 85 ls []) := by
              intro kL14 hKL14 nL14
              induction nL14 with
              | zero =>
                intro l14_4 σL14 H locs ls h
                cases h
              | succ nL14 ihL14 =>
                intro l14_4 σL14 H locs ls h hP hS hl
                rw [L14_X10_sheet] at h
                refine lv_iload hx hb dX10_sheet_85 (lv_at hl 0 rfl) ?_
                refine lv_bipush (v := 60) hx hb dX10_sheet_87 (by decide) ?_
                refine lv_icmp_ge (tgt := 111) hx hb dX10_sheet_89 (by decide) (fun c15 => ?_) (fun c15 => ?_)
                · have h := g_ift c15 h
                  exact hKL14 _ _ _ _ _ h hP hS (lv_sub hl [0, 1, 2, 3, 4] rfl)
                · have h := g_iff c15 h
                  refine lv_aload_n hx hb dX10_sheet_92 rfl (lv_at hl 1 rfl) ?_
                  refine g_get hx hb ht hown hE hP (by decide) gE_101 uX10 rfl 6 (by decide) m_796 rfl rfl dX10_sheet_93 ?_
                  refine lv_bipush (v := 60) hx hb dX10_sheet_96 (by decide) ?_
                  refine lv_iload_n hx hb dX10_sheet_98 rfl (lv_at hl 2 rfl) ?_
                  refine lv_imul hx hb dX10_sheet_99 ?_
                  refine lv_iload hx hb dX10_sheet_100 (lv_at hl 0 rfl) ?_
                  refine lv_iadd hx hb dX10_sheet_102 ?_
                  refine lv_iconst (v := 0) hx hb dX10_sheet_103 (by decide) ?_
                  obtain ⟨i16, h⟩ := g_ix h
                  refine g_iast hx hb hE hP hS (by decide) rfl (by decide) i16 dX10_sheet_104 (fun H locs σ17 eσ17 hP hS => ?_)
                  have h := g_nm eσ17 h
                  obtain ⟨x18, ex18⟩ : ∃ y : Int32, y = l14_4 + 1 := ⟨_, rfl⟩
                  have h := g_nm ex18 h
                  refine lv_iinc (v := x18) (lv' := [(4, .int x18), (0, .ref (G.2.2.1 101)), (1, .int a1), (2, .int a2), (3, .int a3)]) hx hb dX10_sheet_105 hl (k := 0) rfl (by rw [ex18]; rfl) (by decide) rfl (fun ls hl => ?_)
                  refine lv_goto (tgt := 85) hx hb dX10_sheet_108 (by decide) ?_
                  exact ihL14 _ _ _ _ _ h hP hS (lv_sub hl [0, 1, 2, 3, 4] rfl)
            refine LPL14 _ (fun z19 σ20 H locs ls h hP hS hl => ?_) gFu _ _ _ _ _ h hP hS (lv_sub hl [0, 1, 2, 3, 4] rfl)
            refine lv_aload_n hx hb dX10_sheet_111 rfl (lv_at hl 1 rfl) ?_
            refine g_get hx hb ht hown hE hP (by decide) gE_101 uX10 rfl 5 (by decide) m_795 rfl rfl dX10_sheet_112 ?_
            refine lv_iload_n hx hb dX10_sheet_115 rfl (lv_at hl 2 rfl) ?_
            obtain ⟨i21, h⟩ := g_ix h
            refine g_iald hx hb hE hP (by decide) rfl (by decide) i21 dX10_sheet_116 ?_
            exact g_iret hx hb hr hlk hE hP hS h dX10_sheet_117
          · have h := g_ift c11 h
            refine lv_iconst (v := 0) hx hb dX10_sheet_76 (by decide) ?_
            refine lv_goto (tgt := 81) hx hb dX10_sheet_77 (by decide) ?_
            obtain ⟨i22, h⟩ := g_ix h
            refine g_iast hx hb hE hP hS (by decide) rfl (by decide) i22 dX10_sheet_81 (fun H locs σ23 eσ23 hP hS => ?_)
            have h := g_nm eσ23 h
            refine lv_iconst (v := 0) hx hb dX10_sheet_82 (by decide) ?_
            refine lv_istore (lv' := [(4, .int 0), (0, .ref (G.2.2.1 101)), (1, .int a1), (2, .int a2), (3, .int a3)]) hx hb dX10_sheet_83 hl (by decide) rfl (fun ls hl => ?_)
            have LPL24 : ∀ (kL24 : Int32 → gSt → gO), (∀ (l24_4 : Int32) (σL24 : gSt) (H : Heap) (locs : List Loc) (ls : Array Slot), kL24 l24_4 σL24 = some (r, σ') → gW G σL24 H → va_S (gA G) s.heap H locs → lv_has ls 5 [(4, .int l24_4), (0, .ref (G.2.2.1 101)), (1, .int a1), (2, .int a2), (3, .int a3)] → W p l e (gRm 2 42) s m ([.ref (G.2.2.1 101), .int a1, .int a2, .int a3].toArray) below meth c H locs 0 0 (MQ below (gQ G r σ') ([.ref (G.2.2.1 101), .int a1, .int a2, .int a3].toArray) s 0 0 (gA G)) (F0 m 111 ls [])) → ∀ (nL24 : Nat) (l24_4 : Int32) (σL24 : gSt) (H : Heap) (locs : List Loc) (ls : Array Slot), L24_X10_sheet a1 a2 a3 nL24 l24_4 σL24 kL24 = some (r, σ') → gW G σL24 H → va_S (gA G) s.heap H locs → lv_has ls 5 [(4, .int l24_4), (0, .ref (G.2.2.1 101)), (1, .int a1), (2, .int a2), (3, .int a3)] → W p l e (gRm 2 42) s m ([.ref (G.2.2.1 101), .int a1, .int a2, .int a3].toArray) below meth c H locs 0 0 (MQ below (gQ G r σ') ([.ref (G.2.2.1 101), .int a1, .int a2, .int a3].toArray) s 0 0 (gA G)) (F0 m 85 ls []) := by
              intro kL24 hKL24 nL24
              induction nL24 with
              | zero =>
                intro l24_4 σL24 H locs ls h
                cases h
              | succ nL24 ihL24 =>
                intro l24_4 σL24 H locs ls h hP hS hl
                rw [L24_X10_sheet] at h
                refine lv_iload hx hb dX10_sheet_85 (lv_at hl 0 rfl) ?_
                refine lv_bipush (v := 60) hx hb dX10_sheet_87 (by decide) ?_
                refine lv_icmp_ge (tgt := 111) hx hb dX10_sheet_89 (by decide) (fun c25 => ?_) (fun c25 => ?_)
                · have h := g_ift c25 h
                  exact hKL24 _ _ _ _ _ h hP hS (lv_sub hl [0, 1, 2, 3, 4] rfl)
                · have h := g_iff c25 h
                  refine lv_aload_n hx hb dX10_sheet_92 rfl (lv_at hl 1 rfl) ?_
                  refine g_get hx hb ht hown hE hP (by decide) gE_101 uX10 rfl 6 (by decide) m_796 rfl rfl dX10_sheet_93 ?_
                  refine lv_bipush (v := 60) hx hb dX10_sheet_96 (by decide) ?_
                  refine lv_iload_n hx hb dX10_sheet_98 rfl (lv_at hl 2 rfl) ?_
                  refine lv_imul hx hb dX10_sheet_99 ?_
                  refine lv_iload hx hb dX10_sheet_100 (lv_at hl 0 rfl) ?_
                  refine lv_iadd hx hb dX10_sheet_102 ?_
                  refine lv_iconst (v := 0) hx hb dX10_sheet_103 (by decide) ?_
                  obtain ⟨i26, h⟩ := g_ix h
                  refine g_iast hx hb hE hP hS (by decide) rfl (by decide) i26 dX10_sheet_104 (fun H locs σ27 eσ27 hP hS => ?_)
                  have h := g_nm eσ27 h
                  obtain ⟨x28, ex28⟩ : ∃ y : Int32, y = l24_4 + 1 := ⟨_, rfl⟩
                  have h := g_nm ex28 h
                  refine lv_iinc (v := x28) (lv' := [(4, .int x28), (0, .ref (G.2.2.1 101)), (1, .int a1), (2, .int a2), (3, .int a3)]) hx hb dX10_sheet_105 hl (k := 0) rfl (by rw [ex28]; rfl) (by decide) rfl (fun ls hl => ?_)
                  refine lv_goto (tgt := 85) hx hb dX10_sheet_108 (by decide) ?_
                  exact ihL24 _ _ _ _ _ h hP hS (lv_sub hl [0, 1, 2, 3, 4] rfl)
            refine LPL24 _ (fun z29 σ30 H locs ls h hP hS hl => ?_) gFu _ _ _ _ _ h hP hS (lv_sub hl [0, 1, 2, 3, 4] rfl)
            refine lv_aload_n hx hb dX10_sheet_111 rfl (lv_at hl 1 rfl) ?_
            refine g_get hx hb ht hown hE hP (by decide) gE_101 uX10 rfl 5 (by decide) m_795 rfl rfl dX10_sheet_112 ?_
            refine lv_iload_n hx hb dX10_sheet_115 rfl (lv_at hl 2 rfl) ?_
            obtain ⟨i31, h⟩ := g_ix h
            refine g_iald hx hb hE hP (by decide) rfl (by decide) i31 dX10_sheet_116 ?_
            exact g_iret hx hb hr hlk hE hP hS h dX10_sheet_117
        · have h := g_iff c8 h
          refine lv_aload_n hx hb dX10_sheet_53 rfl (lv_at hl 0 rfl) ?_
          refine lv_ldc hx hb hown (ht _ m_837) dX10_sheet_54 ?_
          obtain ⟨r33, σ32, hcr33, h⟩ := g_bd h
          refine g_callV (As := [.int (-100001)]) (n := 1) hx hb hml hown ht (c_X10_finding l G _ _ hcr33) m_838 m_840 m_14 m_41 m_841 (by decide +kernel) (by decide) gE_101 rfl hE hP hS (fun _ h => h) (fun _ _ h => h) rfl hl.1 rfl (Nat.le_of_ble_eq_true rfl) dX10_sheet_56 ⟨by decide, by decide⟩ ⟨Nat.zero_le _, Nat.zero_le _⟩ (fun H locs hP hS => ?_)
          exact g_iret hx hb hr hlk hE hP hS h dX10_sheet_59
      · have h := g_iff c7 h
        refine lv_aload_n hx hb dX10_sheet_40 rfl (lv_at hl 0 rfl) ?_
        refine lv_ldc hx hb hown (ht _ m_851) dX10_sheet_41 ?_
        obtain ⟨r35, σ34, hcr35, h⟩ := g_bd h
        refine g_callV (As := [.int (-100003)]) (n := 1) hx hb hml hown ht (c_X10_finding l G _ _ hcr35) m_838 m_840 m_14 m_41 m_841 (by decide +kernel) (by decide) gE_101 rfl hE hP hS (fun _ h => h) (fun _ _ h => h) rfl hl.1 rfl (Nat.le_of_ble_eq_true rfl) dX10_sheet_43 ⟨by decide, by decide⟩ ⟨Nat.zero_le _, Nat.zero_le _⟩ (fun H locs hP hS => ?_)
        exact g_iret hx hb hr hlk hE hP hS h dX10_sheet_46
    · have h := g_iff c6 h
      refine lv_iload_n hx hb dX10_sheet_11 rfl (lv_at hl 2 rfl) ?_
      refine lv_bipush (v := 8) hx hb dX10_sheet_12 (by decide) ?_
      refine lv_icmp_eq (tgt := 36) hx hb dX10_sheet_14 (by decide) (fun c36 => ?_) (fun c36 => ?_)
      · have h := g_ift c36 h
        refine lv_iload_n hx hb dX10_sheet_36 rfl (lv_at hl 3 rfl) ?_
        refine lv_if_ge (tgt := 47) hx hb dX10_sheet_37 (by decide) (fun c37 => ?_) (fun c37 => ?_)
        · have h := g_ift c37 h
          refine lv_iload_n hx hb dX10_sheet_47 rfl (lv_at hl 3 rfl) ?_
          refine lv_bipush (v := 60) hx hb dX10_sheet_48 (by decide) ?_
          refine lv_icmp_le (tgt := 60) hx hb dX10_sheet_50 (by decide) (fun c38 => ?_) (fun c38 => ?_)
          · have h := g_ift c38 h
            refine lv_aload_n hx hb dX10_sheet_60 rfl (lv_at hl 0 rfl) ?_
            refine g_get hx hb ht hown hE hP (by decide) gE_101 uX10 rfl 4 (by decide) m_794 rfl rfl dX10_sheet_61 ?_
            refine lv_iload_n hx hb dX10_sheet_64 rfl (lv_at hl 1 rfl) ?_
            refine lv_iload_n hx hb dX10_sheet_65 rfl (lv_at hl 2 rfl) ?_
            obtain ⟨i39, h⟩ := g_ix h
            refine g_iast hx hb hE hP hS (by decide) rfl (by decide) i39 dX10_sheet_66 (fun H locs σ40 eσ40 hP hS => ?_)
            have h := g_nm eσ40 h
            refine lv_aload_n hx hb dX10_sheet_67 rfl (lv_at hl 0 rfl) ?_
            refine g_get hx hb ht hown hE hP (by decide) gE_101 uX10 rfl 5 (by decide) m_795 rfl rfl dX10_sheet_68 ?_
            refine lv_iload_n hx hb dX10_sheet_71 rfl (lv_at hl 1 rfl) ?_
            refine lv_iload_n hx hb dX10_sheet_72 rfl (lv_at hl 2 rfl) ?_
            refine lv_if_ne (tgt := 80) hx hb dX10_sheet_73 (by decide) (fun c41 => ?_) (fun c41 => ?_)
            · have h := g_iff c41 h
              refine lv_iload_n hx hb dX10_sheet_80 rfl (lv_at hl 3 rfl) ?_
              obtain ⟨i42, h⟩ := g_ix h
              refine g_iast hx hb hE hP hS (by decide) rfl (by decide) i42 dX10_sheet_81 (fun H locs σ43 eσ43 hP hS => ?_)
              have h := g_nm eσ43 h
              refine lv_iconst (v := 0) hx hb dX10_sheet_82 (by decide) ?_
              refine lv_istore (lv' := [(4, .int 0), (0, .ref (G.2.2.1 101)), (1, .int a1), (2, .int a2), (3, .int a3)]) hx hb dX10_sheet_83 hl (by decide) rfl (fun ls hl => ?_)
              have LPL44 : ∀ (kL44 : Int32 → gSt → gO), (∀ (l44_4 : Int32) (σL44 : gSt) (H : Heap) (locs : List Loc) (ls : Array Slot), kL44 l44_4 σL44 = some (r, σ') → gW G σL44 H → va_S (gA G) s.heap H locs → lv_has ls 5 [(4, .int l44_4), (0, .ref (G.2.2.1 101)), (1, .int a1), (2, .int a2), (3, .int a3)] → W p l e (gRm 2 42) s m ([.ref (G.2.2.1 101), .int a1, .int a2, .int a3].toArray) below meth c H locs 0 0 (MQ below (gQ G r σ') ([.ref (G.2.2.1 101), .int a1, .int a2, .int a3].toArray) s 0 0 (gA G)) (F0 m 111 ls [])) → ∀ (nL44 : Nat) (l44_4 : Int32) (σL44 : gSt) (H : Heap) (locs : List Loc) (ls : Array Slot), L44_X10_sheet a1 a2 a3 nL44 l44_4 σL44 kL44 = some (r, σ') → gW G σL44 H → va_S (gA G) s.heap H locs → lv_has ls 5 [(4, .int l44_4), (0, .ref (G.2.2.1 101)), (1, .int a1), (2, .int a2), (3, .int a3)] → W p l e (gRm 2 42) s m ([.ref (G.2.2.1 101), .int a1, .int a2, .int a3].toArray) below meth c H locs 0 0 (MQ below (gQ G r σ') ([.ref (G.2.2.1 101), .int a1, .int a2, .int a3].toArray) s 0 0 (gA G)) (F0 m 85 ls []) := by
                intro kL44 hKL44 nL44
                induction nL44 with
                | zero =>
                  intro l44_4 σL44 H locs ls h
                  cases h
                | succ nL44 ihL44 =>
                  intro l44_4 σL44 H locs ls h hP hS hl
                  rw [L44_X10_sheet] at h
                  refine lv_iload hx hb dX10_sheet_85 (lv_at hl 0 rfl) ?_
                  refine lv_bipush (v := 60) hx hb dX10_sheet_87 (by decide) ?_
                  refine lv_icmp_ge (tgt := 111) hx hb dX10_sheet_89 (by decide) (fun c45 => ?_) (fun c45 => ?_)
                  · have h := g_ift c45 h
                    exact hKL44 _ _ _ _ _ h hP hS (lv_sub hl [0, 1, 2, 3, 4] rfl)
                  · have h := g_iff c45 h
                    refine lv_aload_n hx hb dX10_sheet_92 rfl (lv_at hl 1 rfl) ?_
                    refine g_get hx hb ht hown hE hP (by decide) gE_101 uX10 rfl 6 (by decide) m_796 rfl rfl dX10_sheet_93 ?_
                    refine lv_bipush (v := 60) hx hb dX10_sheet_96 (by decide) ?_
                    refine lv_iload_n hx hb dX10_sheet_98 rfl (lv_at hl 2 rfl) ?_
                    refine lv_imul hx hb dX10_sheet_99 ?_
                    refine lv_iload hx hb dX10_sheet_100 (lv_at hl 0 rfl) ?_
                    refine lv_iadd hx hb dX10_sheet_102 ?_
                    refine lv_iconst (v := 0) hx hb dX10_sheet_103 (by decide) ?_
                    obtain ⟨i46, h⟩ := g_ix h
                    refine g_iast hx hb hE hP hS (by decide) rfl (by decide) i46 dX10_sheet_104 (fun H locs σ47 eσ47 hP hS => ?_)
                    have h := g_nm eσ47 h
                    obtain ⟨x48, ex48⟩ : ∃ y : Int32, y = l44_4 + 1 := ⟨_, rfl⟩
                    have h := g_nm ex48 h
                    refine lv_iinc (v := x48) (lv' := [(4, .int x48), (0, .ref (G.2.2.1 101)), (1, .int a1), (2, .int a2), (3, .int a3)]) hx hb dX10_sheet_105 hl (k := 0) rfl (by rw [ex48]; rfl) (by decide) rfl (fun ls hl => ?_)
                    refine lv_goto (tgt := 85) hx hb dX10_sheet_108 (by decide) ?_
                    exact ihL44 _ _ _ _ _ h hP hS (lv_sub hl [0, 1, 2, 3, 4] rfl)
              refine LPL44 _ (fun z49 σ50 H locs ls h hP hS hl => ?_) gFu _ _ _ _ _ h hP hS (lv_sub hl [0, 1, 2, 3, 4] rfl)
              refine lv_aload_n hx hb dX10_sheet_111 rfl (lv_at hl 1 rfl) ?_
              refine g_get hx hb ht hown hE hP (by decide) gE_101 uX10 rfl 5 (by decide) m_795 rfl rfl dX10_sheet_112 ?_
              refine lv_iload_n hx hb dX10_sheet_115 rfl (lv_at hl 2 rfl) ?_
              obtain ⟨i51, h⟩ := g_ix h
              refine g_iald hx hb hE hP (by decide) rfl (by decide) i51 dX10_sheet_116 ?_
              exact g_iret hx hb hr hlk hE hP hS h dX10_sheet_117
            · have h := g_ift c41 h
              refine lv_iconst (v := 0) hx hb dX10_sheet_76 (by decide) ?_
              refine lv_goto (tgt := 81) hx hb dX10_sheet_77 (by decide) ?_
              obtain ⟨i52, h⟩ := g_ix h
              refine g_iast hx hb hE hP hS (by decide) rfl (by decide) i52 dX10_sheet_81 (fun H locs σ53 eσ53 hP hS => ?_)
              have h := g_nm eσ53 h
              refine lv_iconst (v := 0) hx hb dX10_sheet_82 (by decide) ?_
              refine lv_istore (lv' := [(4, .int 0), (0, .ref (G.2.2.1 101)), (1, .int a1), (2, .int a2), (3, .int a3)]) hx hb dX10_sheet_83 hl (by decide) rfl (fun ls hl => ?_)
              have LPL54 : ∀ (kL54 : Int32 → gSt → gO), (∀ (l54_4 : Int32) (σL54 : gSt) (H : Heap) (locs : List Loc) (ls : Array Slot), kL54 l54_4 σL54 = some (r, σ') → gW G σL54 H → va_S (gA G) s.heap H locs → lv_has ls 5 [(4, .int l54_4), (0, .ref (G.2.2.1 101)), (1, .int a1), (2, .int a2), (3, .int a3)] → W p l e (gRm 2 42) s m ([.ref (G.2.2.1 101), .int a1, .int a2, .int a3].toArray) below meth c H locs 0 0 (MQ below (gQ G r σ') ([.ref (G.2.2.1 101), .int a1, .int a2, .int a3].toArray) s 0 0 (gA G)) (F0 m 111 ls [])) → ∀ (nL54 : Nat) (l54_4 : Int32) (σL54 : gSt) (H : Heap) (locs : List Loc) (ls : Array Slot), L54_X10_sheet a1 a2 a3 nL54 l54_4 σL54 kL54 = some (r, σ') → gW G σL54 H → va_S (gA G) s.heap H locs → lv_has ls 5 [(4, .int l54_4), (0, .ref (G.2.2.1 101)), (1, .int a1), (2, .int a2), (3, .int a3)] → W p l e (gRm 2 42) s m ([.ref (G.2.2.1 101), .int a1, .int a2, .int a3].toArray) below meth c H locs 0 0 (MQ below (gQ G r σ') ([.ref (G.2.2.1 101), .int a1, .int a2, .int a3].toArray) s 0 0 (gA G)) (F0 m 85 ls []) := by
                intro kL54 hKL54 nL54
                induction nL54 with
                | zero =>
                  intro l54_4 σL54 H locs ls h
                  cases h
                | succ nL54 ihL54 =>
                  intro l54_4 σL54 H locs ls h hP hS hl
                  rw [L54_X10_sheet] at h
                  refine lv_iload hx hb dX10_sheet_85 (lv_at hl 0 rfl) ?_
                  refine lv_bipush (v := 60) hx hb dX10_sheet_87 (by decide) ?_
                  refine lv_icmp_ge (tgt := 111) hx hb dX10_sheet_89 (by decide) (fun c55 => ?_) (fun c55 => ?_)
                  · have h := g_ift c55 h
                    exact hKL54 _ _ _ _ _ h hP hS (lv_sub hl [0, 1, 2, 3, 4] rfl)
                  · have h := g_iff c55 h
                    refine lv_aload_n hx hb dX10_sheet_92 rfl (lv_at hl 1 rfl) ?_
                    refine g_get hx hb ht hown hE hP (by decide) gE_101 uX10 rfl 6 (by decide) m_796 rfl rfl dX10_sheet_93 ?_
                    refine lv_bipush (v := 60) hx hb dX10_sheet_96 (by decide) ?_
                    refine lv_iload_n hx hb dX10_sheet_98 rfl (lv_at hl 2 rfl) ?_
                    refine lv_imul hx hb dX10_sheet_99 ?_
                    refine lv_iload hx hb dX10_sheet_100 (lv_at hl 0 rfl) ?_
                    refine lv_iadd hx hb dX10_sheet_102 ?_
                    refine lv_iconst (v := 0) hx hb dX10_sheet_103 (by decide) ?_
                    obtain ⟨i56, h⟩ := g_ix h
                    refine g_iast hx hb hE hP hS (by decide) rfl (by decide) i56 dX10_sheet_104 (fun H locs σ57 eσ57 hP hS => ?_)
                    have h := g_nm eσ57 h
                    obtain ⟨x58, ex58⟩ : ∃ y : Int32, y = l54_4 + 1 := ⟨_, rfl⟩
                    have h := g_nm ex58 h
                    refine lv_iinc (v := x58) (lv' := [(4, .int x58), (0, .ref (G.2.2.1 101)), (1, .int a1), (2, .int a2), (3, .int a3)]) hx hb dX10_sheet_105 hl (k := 0) rfl (by rw [ex58]; rfl) (by decide) rfl (fun ls hl => ?_)
                    refine lv_goto (tgt := 85) hx hb dX10_sheet_108 (by decide) ?_
                    exact ihL54 _ _ _ _ _ h hP hS (lv_sub hl [0, 1, 2, 3, 4] rfl)
              refine LPL54 _ (fun z59 σ60 H locs ls h hP hS hl => ?_) gFu _ _ _ _ _ h hP hS (lv_sub hl [0, 1, 2, 3, 4] rfl)
              refine lv_aload_n hx hb dX10_sheet_111 rfl (lv_at hl 1 rfl) ?_
              refine g_get hx hb ht hown hE hP (by decide) gE_101 uX10 rfl 5 (by decide) m_795 rfl rfl dX10_sheet_112 ?_
              refine lv_iload_n hx hb dX10_sheet_115 rfl (lv_at hl 2 rfl) ?_
              obtain ⟨i61, h⟩ := g_ix h
              refine g_iald hx hb hE hP (by decide) rfl (by decide) i61 dX10_sheet_116 ?_
              exact g_iret hx hb hr hlk hE hP hS h dX10_sheet_117
          · have h := g_iff c38 h
            refine lv_aload_n hx hb dX10_sheet_53 rfl (lv_at hl 0 rfl) ?_
            refine lv_ldc hx hb hown (ht _ m_837) dX10_sheet_54 ?_
            obtain ⟨r63, σ62, hcr63, h⟩ := g_bd h
            refine g_callV (As := [.int (-100001)]) (n := 1) hx hb hml hown ht (c_X10_finding l G _ _ hcr63) m_838 m_840 m_14 m_41 m_841 (by decide +kernel) (by decide) gE_101 rfl hE hP hS (fun _ h => h) (fun _ _ h => h) rfl hl.1 rfl (Nat.le_of_ble_eq_true rfl) dX10_sheet_56 ⟨by decide, by decide⟩ ⟨Nat.zero_le _, Nat.zero_le _⟩ (fun H locs hP hS => ?_)
            exact g_iret hx hb hr hlk hE hP hS h dX10_sheet_59
        · have h := g_iff c37 h
          refine lv_aload_n hx hb dX10_sheet_40 rfl (lv_at hl 0 rfl) ?_
          refine lv_ldc hx hb hown (ht _ m_851) dX10_sheet_41 ?_
          obtain ⟨r65, σ64, hcr65, h⟩ := g_bd h
          refine g_callV (As := [.int (-100003)]) (n := 1) hx hb hml hown ht (c_X10_finding l G _ _ hcr65) m_838 m_840 m_14 m_41 m_841 (by decide +kernel) (by decide) gE_101 rfl hE hP hS (fun _ h => h) (fun _ _ h => h) rfl hl.1 rfl (Nat.le_of_ble_eq_true rfl) dX10_sheet_43 ⟨by decide, by decide⟩ ⟨Nat.zero_le _, Nat.zero_le _⟩ (fun H locs hP hS => ?_)
          exact g_iret hx hb hr hlk hE hP hS h dX10_sheet_46
      · have h := g_iff c36 h
        refine lv_iload_n hx hb dX10_sheet_17 rfl (lv_at hl 2 rfl) ?_
        refine lv_bipush (v := 16) hx hb dX10_sheet_18 (by decide) ?_
        refine lv_icmp_eq (tgt := 36) hx hb dX10_sheet_20 (by decide) (fun c66 => ?_) (fun c66 => ?_)
        · have h := g_ift c66 h
          refine lv_iload_n hx hb dX10_sheet_36 rfl (lv_at hl 3 rfl) ?_
          refine lv_if_ge (tgt := 47) hx hb dX10_sheet_37 (by decide) (fun c67 => ?_) (fun c67 => ?_)
          · have h := g_ift c67 h
            refine lv_iload_n hx hb dX10_sheet_47 rfl (lv_at hl 3 rfl) ?_
            refine lv_bipush (v := 60) hx hb dX10_sheet_48 (by decide) ?_
            refine lv_icmp_le (tgt := 60) hx hb dX10_sheet_50 (by decide) (fun c68 => ?_) (fun c68 => ?_)
            · have h := g_ift c68 h
              refine lv_aload_n hx hb dX10_sheet_60 rfl (lv_at hl 0 rfl) ?_
              refine g_get hx hb ht hown hE hP (by decide) gE_101 uX10 rfl 4 (by decide) m_794 rfl rfl dX10_sheet_61 ?_
              refine lv_iload_n hx hb dX10_sheet_64 rfl (lv_at hl 1 rfl) ?_
              refine lv_iload_n hx hb dX10_sheet_65 rfl (lv_at hl 2 rfl) ?_
              obtain ⟨i69, h⟩ := g_ix h
              refine g_iast hx hb hE hP hS (by decide) rfl (by decide) i69 dX10_sheet_66 (fun H locs σ70 eσ70 hP hS => ?_)
              have h := g_nm eσ70 h
              refine lv_aload_n hx hb dX10_sheet_67 rfl (lv_at hl 0 rfl) ?_
              refine g_get hx hb ht hown hE hP (by decide) gE_101 uX10 rfl 5 (by decide) m_795 rfl rfl dX10_sheet_68 ?_
              refine lv_iload_n hx hb dX10_sheet_71 rfl (lv_at hl 1 rfl) ?_
              refine lv_iload_n hx hb dX10_sheet_72 rfl (lv_at hl 2 rfl) ?_
              refine lv_if_ne (tgt := 80) hx hb dX10_sheet_73 (by decide) (fun c71 => ?_) (fun c71 => ?_)
              · have h := g_iff c71 h
                refine lv_iload_n hx hb dX10_sheet_80 rfl (lv_at hl 3 rfl) ?_
                obtain ⟨i72, h⟩ := g_ix h
                refine g_iast hx hb hE hP hS (by decide) rfl (by decide) i72 dX10_sheet_81 (fun H locs σ73 eσ73 hP hS => ?_)
                have h := g_nm eσ73 h
                refine lv_iconst (v := 0) hx hb dX10_sheet_82 (by decide) ?_
                refine lv_istore (lv' := [(4, .int 0), (0, .ref (G.2.2.1 101)), (1, .int a1), (2, .int a2), (3, .int a3)]) hx hb dX10_sheet_83 hl (by decide) rfl (fun ls hl => ?_)
                have LPL74 : ∀ (kL74 : Int32 → gSt → gO), (∀ (l74_4 : Int32) (σL74 : gSt) (H : Heap) (locs : List Loc) (ls : Array Slot), kL74 l74_4 σL74 = some (r, σ') → gW G σL74 H → va_S (gA G) s.heap H locs → lv_has ls 5 [(4, .int l74_4), (0, .ref (G.2.2.1 101)), (1, .int a1), (2, .int a2), (3, .int a3)] → W p l e (gRm 2 42) s m ([.ref (G.2.2.1 101), .int a1, .int a2, .int a3].toArray) below meth c H locs 0 0 (MQ below (gQ G r σ') ([.ref (G.2.2.1 101), .int a1, .int a2, .int a3].toArray) s 0 0 (gA G)) (F0 m 111 ls [])) → ∀ (nL74 : Nat) (l74_4 : Int32) (σL74 : gSt) (H : Heap) (locs : List Loc) (ls : Array Slot), L74_X10_sheet a1 a2 a3 nL74 l74_4 σL74 kL74 = some (r, σ') → gW G σL74 H → va_S (gA G) s.heap H locs → lv_has ls 5 [(4, .int l74_4), (0, .ref (G.2.2.1 101)), (1, .int a1), (2, .int a2), (3, .int a3)] → W p l e (gRm 2 42) s m ([.ref (G.2.2.1 101), .int a1, .int a2, .int a3].toArray) below meth c H locs 0 0 (MQ below (gQ G r σ') ([.ref (G.2.2.1 101), .int a1, .int a2, .int a3].toArray) s 0 0 (gA G)) (F0 m 85 ls []) := by
                  intro kL74 hKL74 nL74
                  induction nL74 with
                  | zero =>
                    intro l74_4 σL74 H locs ls h
                    cases h
                  | succ nL74 ihL74 =>
                    intro l74_4 σL74 H locs ls h hP hS hl
                    rw [L74_X10_sheet] at h
                    refine lv_iload hx hb dX10_sheet_85 (lv_at hl 0 rfl) ?_
                    refine lv_bipush (v := 60) hx hb dX10_sheet_87 (by decide) ?_
                    refine lv_icmp_ge (tgt := 111) hx hb dX10_sheet_89 (by decide) (fun c75 => ?_) (fun c75 => ?_)
                    · have h := g_ift c75 h
                      exact hKL74 _ _ _ _ _ h hP hS (lv_sub hl [0, 1, 2, 3, 4] rfl)
                    · have h := g_iff c75 h
                      refine lv_aload_n hx hb dX10_sheet_92 rfl (lv_at hl 1 rfl) ?_
                      refine g_get hx hb ht hown hE hP (by decide) gE_101 uX10 rfl 6 (by decide) m_796 rfl rfl dX10_sheet_93 ?_
                      refine lv_bipush (v := 60) hx hb dX10_sheet_96 (by decide) ?_
                      refine lv_iload_n hx hb dX10_sheet_98 rfl (lv_at hl 2 rfl) ?_
                      refine lv_imul hx hb dX10_sheet_99 ?_
                      refine lv_iload hx hb dX10_sheet_100 (lv_at hl 0 rfl) ?_
                      refine lv_iadd hx hb dX10_sheet_102 ?_
                      refine lv_iconst (v := 0) hx hb dX10_sheet_103 (by decide) ?_
                      obtain ⟨i76, h⟩ := g_ix h
                      refine g_iast hx hb hE hP hS (by decide) rfl (by decide) i76 dX10_sheet_104 (fun H locs σ77 eσ77 hP hS => ?_)
                      have h := g_nm eσ77 h
                      obtain ⟨x78, ex78⟩ : ∃ y : Int32, y = l74_4 + 1 := ⟨_, rfl⟩
                      have h := g_nm ex78 h
                      refine lv_iinc (v := x78) (lv' := [(4, .int x78), (0, .ref (G.2.2.1 101)), (1, .int a1), (2, .int a2), (3, .int a3)]) hx hb dX10_sheet_105 hl (k := 0) rfl (by rw [ex78]; rfl) (by decide) rfl (fun ls hl => ?_)
                      refine lv_goto (tgt := 85) hx hb dX10_sheet_108 (by decide) ?_
                      exact ihL74 _ _ _ _ _ h hP hS (lv_sub hl [0, 1, 2, 3, 4] rfl)
                refine LPL74 _ (fun z79 σ80 H locs ls h hP hS hl => ?_) gFu _ _ _ _ _ h hP hS (lv_sub hl [0, 1, 2, 3, 4] rfl)
                refine lv_aload_n hx hb dX10_sheet_111 rfl (lv_at hl 1 rfl) ?_
                refine g_get hx hb ht hown hE hP (by decide) gE_101 uX10 rfl 5 (by decide) m_795 rfl rfl dX10_sheet_112 ?_
                refine lv_iload_n hx hb dX10_sheet_115 rfl (lv_at hl 2 rfl) ?_
                obtain ⟨i81, h⟩ := g_ix h
                refine g_iald hx hb hE hP (by decide) rfl (by decide) i81 dX10_sheet_116 ?_
                exact g_iret hx hb hr hlk hE hP hS h dX10_sheet_117
              · have h := g_ift c71 h
                refine lv_iconst (v := 0) hx hb dX10_sheet_76 (by decide) ?_
                refine lv_goto (tgt := 81) hx hb dX10_sheet_77 (by decide) ?_
                obtain ⟨i82, h⟩ := g_ix h
                refine g_iast hx hb hE hP hS (by decide) rfl (by decide) i82 dX10_sheet_81 (fun H locs σ83 eσ83 hP hS => ?_)
                have h := g_nm eσ83 h
                refine lv_iconst (v := 0) hx hb dX10_sheet_82 (by decide) ?_
                refine lv_istore (lv' := [(4, .int 0), (0, .ref (G.2.2.1 101)), (1, .int a1), (2, .int a2), (3, .int a3)]) hx hb dX10_sheet_83 hl (by decide) rfl (fun ls hl => ?_)
                have LPL84 : ∀ (kL84 : Int32 → gSt → gO), (∀ (l84_4 : Int32) (σL84 : gSt) (H : Heap) (locs : List Loc) (ls : Array Slot), kL84 l84_4 σL84 = some (r, σ') → gW G σL84 H → va_S (gA G) s.heap H locs → lv_has ls 5 [(4, .int l84_4), (0, .ref (G.2.2.1 101)), (1, .int a1), (2, .int a2), (3, .int a3)] → W p l e (gRm 2 42) s m ([.ref (G.2.2.1 101), .int a1, .int a2, .int a3].toArray) below meth c H locs 0 0 (MQ below (gQ G r σ') ([.ref (G.2.2.1 101), .int a1, .int a2, .int a3].toArray) s 0 0 (gA G)) (F0 m 111 ls [])) → ∀ (nL84 : Nat) (l84_4 : Int32) (σL84 : gSt) (H : Heap) (locs : List Loc) (ls : Array Slot), L84_X10_sheet a1 a2 a3 nL84 l84_4 σL84 kL84 = some (r, σ') → gW G σL84 H → va_S (gA G) s.heap H locs → lv_has ls 5 [(4, .int l84_4), (0, .ref (G.2.2.1 101)), (1, .int a1), (2, .int a2), (3, .int a3)] → W p l e (gRm 2 42) s m ([.ref (G.2.2.1 101), .int a1, .int a2, .int a3].toArray) below meth c H locs 0 0 (MQ below (gQ G r σ') ([.ref (G.2.2.1 101), .int a1, .int a2, .int a3].toArray) s 0 0 (gA G)) (F0 m 85 ls []) := by
                  intro kL84 hKL84 nL84
                  induction nL84 with
                  | zero =>
                    intro l84_4 σL84 H locs ls h
                    cases h
                  | succ nL84 ihL84 =>
                    intro l84_4 σL84 H locs ls h hP hS hl
                    rw [L84_X10_sheet] at h
                    refine lv_iload hx hb dX10_sheet_85 (lv_at hl 0 rfl) ?_
                    refine lv_bipush (v := 60) hx hb dX10_sheet_87 (by decide) ?_
                    refine lv_icmp_ge (tgt := 111) hx hb dX10_sheet_89 (by decide) (fun c85 => ?_) (fun c85 => ?_)
                    · have h := g_ift c85 h
                      exact hKL84 _ _ _ _ _ h hP hS (lv_sub hl [0, 1, 2, 3, 4] rfl)
                    · have h := g_iff c85 h
                      refine lv_aload_n hx hb dX10_sheet_92 rfl (lv_at hl 1 rfl) ?_
                      refine g_get hx hb ht hown hE hP (by decide) gE_101 uX10 rfl 6 (by decide) m_796 rfl rfl dX10_sheet_93 ?_
                      refine lv_bipush (v := 60) hx hb dX10_sheet_96 (by decide) ?_
                      refine lv_iload_n hx hb dX10_sheet_98 rfl (lv_at hl 2 rfl) ?_
                      refine lv_imul hx hb dX10_sheet_99 ?_
                      refine lv_iload hx hb dX10_sheet_100 (lv_at hl 0 rfl) ?_
                      refine lv_iadd hx hb dX10_sheet_102 ?_
                      refine lv_iconst (v := 0) hx hb dX10_sheet_103 (by decide) ?_
                      obtain ⟨i86, h⟩ := g_ix h
                      refine g_iast hx hb hE hP hS (by decide) rfl (by decide) i86 dX10_sheet_104 (fun H locs σ87 eσ87 hP hS => ?_)
                      have h := g_nm eσ87 h
                      obtain ⟨x88, ex88⟩ : ∃ y : Int32, y = l84_4 + 1 := ⟨_, rfl⟩
                      have h := g_nm ex88 h
                      refine lv_iinc (v := x88) (lv' := [(4, .int x88), (0, .ref (G.2.2.1 101)), (1, .int a1), (2, .int a2), (3, .int a3)]) hx hb dX10_sheet_105 hl (k := 0) rfl (by rw [ex88]; rfl) (by decide) rfl (fun ls hl => ?_)
                      refine lv_goto (tgt := 85) hx hb dX10_sheet_108 (by decide) ?_
                      exact ihL84 _ _ _ _ _ h hP hS (lv_sub hl [0, 1, 2, 3, 4] rfl)
                refine LPL84 _ (fun z89 σ90 H locs ls h hP hS hl => ?_) gFu _ _ _ _ _ h hP hS (lv_sub hl [0, 1, 2, 3, 4] rfl)
                refine lv_aload_n hx hb dX10_sheet_111 rfl (lv_at hl 1 rfl) ?_
                refine g_get hx hb ht hown hE hP (by decide) gE_101 uX10 rfl 5 (by decide) m_795 rfl rfl dX10_sheet_112 ?_
                refine lv_iload_n hx hb dX10_sheet_115 rfl (lv_at hl 2 rfl) ?_
                obtain ⟨i91, h⟩ := g_ix h
                refine g_iald hx hb hE hP (by decide) rfl (by decide) i91 dX10_sheet_116 ?_
                exact g_iret hx hb hr hlk hE hP hS h dX10_sheet_117
            · have h := g_iff c68 h
              refine lv_aload_n hx hb dX10_sheet_53 rfl (lv_at hl 0 rfl) ?_
              refine lv_ldc hx hb hown (ht _ m_837) dX10_sheet_54 ?_
              obtain ⟨r93, σ92, hcr93, h⟩ := g_bd h
              refine g_callV (As := [.int (-100001)]) (n := 1) hx hb hml hown ht (c_X10_finding l G _ _ hcr93) m_838 m_840 m_14 m_41 m_841 (by decide +kernel) (by decide) gE_101 rfl hE hP hS (fun _ h => h) (fun _ _ h => h) rfl hl.1 rfl (Nat.le_of_ble_eq_true rfl) dX10_sheet_56 ⟨by decide, by decide⟩ ⟨Nat.zero_le _, Nat.zero_le _⟩ (fun H locs hP hS => ?_)
              exact g_iret hx hb hr hlk hE hP hS h dX10_sheet_59
          · have h := g_iff c67 h
            refine lv_aload_n hx hb dX10_sheet_40 rfl (lv_at hl 0 rfl) ?_
            refine lv_ldc hx hb hown (ht _ m_851) dX10_sheet_41 ?_
            obtain ⟨r95, σ94, hcr95, h⟩ := g_bd h
            refine g_callV (As := [.int (-100003)]) (n := 1) hx hb hml hown ht (c_X10_finding l G _ _ hcr95) m_838 m_840 m_14 m_41 m_841 (by decide +kernel) (by decide) gE_101 rfl hE hP hS (fun _ h => h) (fun _ _ h => h) rfl hl.1 rfl (Nat.le_of_ble_eq_true rfl) dX10_sheet_43 ⟨by decide, by decide⟩ ⟨Nat.zero_le _, Nat.zero_le _⟩ (fun H locs hP hS => ?_)
            exact g_iret hx hb hr hlk hE hP hS h dX10_sheet_46
        · have h := g_iff c66 h
          refine lv_iload_n hx hb dX10_sheet_23 rfl (lv_at hl 2 rfl) ?_
          refine lv_bipush (v := 32) hx hb dX10_sheet_24 (by decide) ?_
          refine lv_icmp_eq (tgt := 36) hx hb dX10_sheet_26 (by decide) (fun c96 => ?_) (fun c96 => ?_)
          · have h := g_ift c96 h
            refine lv_iload_n hx hb dX10_sheet_36 rfl (lv_at hl 3 rfl) ?_
            refine lv_if_ge (tgt := 47) hx hb dX10_sheet_37 (by decide) (fun c97 => ?_) (fun c97 => ?_)
            · have h := g_ift c97 h
              refine lv_iload_n hx hb dX10_sheet_47 rfl (lv_at hl 3 rfl) ?_
              refine lv_bipush (v := 60) hx hb dX10_sheet_48 (by decide) ?_
              refine lv_icmp_le (tgt := 60) hx hb dX10_sheet_50 (by decide) (fun c98 => ?_) (fun c98 => ?_)
              · have h := g_ift c98 h
                refine lv_aload_n hx hb dX10_sheet_60 rfl (lv_at hl 0 rfl) ?_
                refine g_get hx hb ht hown hE hP (by decide) gE_101 uX10 rfl 4 (by decide) m_794 rfl rfl dX10_sheet_61 ?_
                refine lv_iload_n hx hb dX10_sheet_64 rfl (lv_at hl 1 rfl) ?_
                refine lv_iload_n hx hb dX10_sheet_65 rfl (lv_at hl 2 rfl) ?_
                obtain ⟨i99, h⟩ := g_ix h
                refine g_iast hx hb hE hP hS (by decide) rfl (by decide) i99 dX10_sheet_66 (fun H locs σ100 eσ100 hP hS => ?_)
                have h := g_nm eσ100 h
                refine lv_aload_n hx hb dX10_sheet_67 rfl (lv_at hl 0 rfl) ?_
                refine g_get hx hb ht hown hE hP (by decide) gE_101 uX10 rfl 5 (by decide) m_795 rfl rfl dX10_sheet_68 ?_
                refine lv_iload_n hx hb dX10_sheet_71 rfl (lv_at hl 1 rfl) ?_
                refine lv_iload_n hx hb dX10_sheet_72 rfl (lv_at hl 2 rfl) ?_
                refine lv_if_ne (tgt := 80) hx hb dX10_sheet_73 (by decide) (fun c101 => ?_) (fun c101 => ?_)
                · have h := g_iff c101 h
                  refine lv_iload_n hx hb dX10_sheet_80 rfl (lv_at hl 3 rfl) ?_
                  obtain ⟨i102, h⟩ := g_ix h
                  refine g_iast hx hb hE hP hS (by decide) rfl (by decide) i102 dX10_sheet_81 (fun H locs σ103 eσ103 hP hS => ?_)
                  have h := g_nm eσ103 h
                  refine lv_iconst (v := 0) hx hb dX10_sheet_82 (by decide) ?_
                  refine lv_istore (lv' := [(4, .int 0), (0, .ref (G.2.2.1 101)), (1, .int a1), (2, .int a2), (3, .int a3)]) hx hb dX10_sheet_83 hl (by decide) rfl (fun ls hl => ?_)
                  have LPL104 : ∀ (kL104 : Int32 → gSt → gO), (∀ (l104_4 : Int32) (σL104 : gSt) (H : Heap) (locs : List Loc) (ls : Array Slot), kL104 l104_4 σL104 = some (r, σ') → gW G σL104 H → va_S (gA G) s.heap H locs → lv_has ls 5 [(4, .int l104_4), (0, .ref (G.2.2.1 101)), (1, .int a1), (2, .int a2), (3, .int a3)] → W p l e (gRm 2 42) s m ([.ref (G.2.2.1 101), .int a1, .int a2, .int a3].toArray) below meth c H locs 0 0 (MQ below (gQ G r σ') ([.ref (G.2.2.1 101), .int a1, .int a2, .int a3].toArray) s 0 0 (gA G)) (F0 m 111 ls [])) → ∀ (nL104 : Nat) (l104_4 : Int32) (σL104 : gSt) (H : Heap) (locs : List Loc) (ls : Array Slot), L104_X10_sheet a1 a2 a3 nL104 l104_4 σL104 kL104 = some (r, σ') → gW G σL104 H → va_S (gA G) s.heap H locs → lv_has ls 5 [(4, .int l104_4), (0, .ref (G.2.2.1 101)), (1, .int a1), (2, .int a2), (3, .int a3)] → W p l e (gRm 2 42) s m ([.ref (G.2.2.1 101), .int a1, .int a2, .int a3].toArray) below meth c H locs 0 0 (MQ below (gQ G r σ') ([.ref (G.2.2.1 101), .int a1, .int a2, .int a3].toArray) s 0 0 (gA G)) (F0 m 85 ls []) := by
                    intro kL104 hKL104 nL104
                    induction nL104 with
                    | zero =>
                      intro l104_4 σL104 H locs ls h
                      cases h
                    | succ nL104 ihL104 =>
                      intro l104_4 σL104 H locs ls h hP hS hl
                      rw [L104_X10_sheet] at h
                      refine lv_iload hx hb dX10_sheet_85 (lv_at hl 0 rfl) ?_
                      refine lv_bipush (v := 60) hx hb dX10_sheet_87 (by decide) ?_
                      refine lv_icmp_ge (tgt := 111) hx hb dX10_sheet_89 (by decide) (fun c105 => ?_) (fun c105 => ?_)
                      · have h := g_ift c105 h
                        exact hKL104 _ _ _ _ _ h hP hS (lv_sub hl [0, 1, 2, 3, 4] rfl)
                      · have h := g_iff c105 h
                        refine lv_aload_n hx hb dX10_sheet_92 rfl (lv_at hl 1 rfl) ?_
                        refine g_get hx hb ht hown hE hP (by decide) gE_101 uX10 rfl 6 (by decide) m_796 rfl rfl dX10_sheet_93 ?_
                        refine lv_bipush (v := 60) hx hb dX10_sheet_96 (by decide) ?_
                        refine lv_iload_n hx hb dX10_sheet_98 rfl (lv_at hl 2 rfl) ?_
                        refine lv_imul hx hb dX10_sheet_99 ?_
                        refine lv_iload hx hb dX10_sheet_100 (lv_at hl 0 rfl) ?_
                        refine lv_iadd hx hb dX10_sheet_102 ?_
                        refine lv_iconst (v := 0) hx hb dX10_sheet_103 (by decide) ?_
                        obtain ⟨i106, h⟩ := g_ix h
                        refine g_iast hx hb hE hP hS (by decide) rfl (by decide) i106 dX10_sheet_104 (fun H locs σ107 eσ107 hP hS => ?_)
                        have h := g_nm eσ107 h
                        obtain ⟨x108, ex108⟩ : ∃ y : Int32, y = l104_4 + 1 := ⟨_, rfl⟩
                        have h := g_nm ex108 h
                        refine lv_iinc (v := x108) (lv' := [(4, .int x108), (0, .ref (G.2.2.1 101)), (1, .int a1), (2, .int a2), (3, .int a3)]) hx hb dX10_sheet_105 hl (k := 0) rfl (by rw [ex108]; rfl) (by decide) rfl (fun ls hl => ?_)
                        refine lv_goto (tgt := 85) hx hb dX10_sheet_108 (by decide) ?_
                        exact ihL104 _ _ _ _ _ h hP hS (lv_sub hl [0, 1, 2, 3, 4] rfl)
                  refine LPL104 _ (fun z109 σ110 H locs ls h hP hS hl => ?_) gFu _ _ _ _ _ h hP hS (lv_sub hl [0, 1, 2, 3, 4] rfl)
                  refine lv_aload_n hx hb dX10_sheet_111 rfl (lv_at hl 1 rfl) ?_
                  refine g_get hx hb ht hown hE hP (by decide) gE_101 uX10 rfl 5 (by decide) m_795 rfl rfl dX10_sheet_112 ?_
                  refine lv_iload_n hx hb dX10_sheet_115 rfl (lv_at hl 2 rfl) ?_
                  obtain ⟨i111, h⟩ := g_ix h
                  refine g_iald hx hb hE hP (by decide) rfl (by decide) i111 dX10_sheet_116 ?_
                  exact g_iret hx hb hr hlk hE hP hS h dX10_sheet_117
                · have h := g_ift c101 h
                  refine lv_iconst (v := 0) hx hb dX10_sheet_76 (by decide) ?_
                  refine lv_goto (tgt := 81) hx hb dX10_sheet_77 (by decide) ?_
                  obtain ⟨i112, h⟩ := g_ix h
                  refine g_iast hx hb hE hP hS (by decide) rfl (by decide) i112 dX10_sheet_81 (fun H locs σ113 eσ113 hP hS => ?_)
                  have h := g_nm eσ113 h
                  refine lv_iconst (v := 0) hx hb dX10_sheet_82 (by decide) ?_
                  refine lv_istore (lv' := [(4, .int 0), (0, .ref (G.2.2.1 101)), (1, .int a1), (2, .int a2), (3, .int a3)]) hx hb dX10_sheet_83 hl (by decide) rfl (fun ls hl => ?_)
                  have LPL114 : ∀ (kL114 : Int32 → gSt → gO), (∀ (l114_4 : Int32) (σL114 : gSt) (H : Heap) (locs : List Loc) (ls : Array Slot), kL114 l114_4 σL114 = some (r, σ') → gW G σL114 H → va_S (gA G) s.heap H locs → lv_has ls 5 [(4, .int l114_4), (0, .ref (G.2.2.1 101)), (1, .int a1), (2, .int a2), (3, .int a3)] → W p l e (gRm 2 42) s m ([.ref (G.2.2.1 101), .int a1, .int a2, .int a3].toArray) below meth c H locs 0 0 (MQ below (gQ G r σ') ([.ref (G.2.2.1 101), .int a1, .int a2, .int a3].toArray) s 0 0 (gA G)) (F0 m 111 ls [])) → ∀ (nL114 : Nat) (l114_4 : Int32) (σL114 : gSt) (H : Heap) (locs : List Loc) (ls : Array Slot), L114_X10_sheet a1 a2 a3 nL114 l114_4 σL114 kL114 = some (r, σ') → gW G σL114 H → va_S (gA G) s.heap H locs → lv_has ls 5 [(4, .int l114_4), (0, .ref (G.2.2.1 101)), (1, .int a1), (2, .int a2), (3, .int a3)] → W p l e (gRm 2 42) s m ([.ref (G.2.2.1 101), .int a1, .int a2, .int a3].toArray) below meth c H locs 0 0 (MQ below (gQ G r σ') ([.ref (G.2.2.1 101), .int a1, .int a2, .int a3].toArray) s 0 0 (gA G)) (F0 m 85 ls []) := by
                    intro kL114 hKL114 nL114
                    induction nL114 with
                    | zero =>
                      intro l114_4 σL114 H locs ls h
                      cases h
                    | succ nL114 ihL114 =>
                      intro l114_4 σL114 H locs ls h hP hS hl
                      rw [L114_X10_sheet] at h
                      refine lv_iload hx hb dX10_sheet_85 (lv_at hl 0 rfl) ?_
                      refine lv_bipush (v := 60) hx hb dX10_sheet_87 (by decide) ?_
                      refine lv_icmp_ge (tgt := 111) hx hb dX10_sheet_89 (by decide) (fun c115 => ?_) (fun c115 => ?_)
                      · have h := g_ift c115 h
                        exact hKL114 _ _ _ _ _ h hP hS (lv_sub hl [0, 1, 2, 3, 4] rfl)
                      · have h := g_iff c115 h
                        refine lv_aload_n hx hb dX10_sheet_92 rfl (lv_at hl 1 rfl) ?_
                        refine g_get hx hb ht hown hE hP (by decide) gE_101 uX10 rfl 6 (by decide) m_796 rfl rfl dX10_sheet_93 ?_
                        refine lv_bipush (v := 60) hx hb dX10_sheet_96 (by decide) ?_
                        refine lv_iload_n hx hb dX10_sheet_98 rfl (lv_at hl 2 rfl) ?_
                        refine lv_imul hx hb dX10_sheet_99 ?_
                        refine lv_iload hx hb dX10_sheet_100 (lv_at hl 0 rfl) ?_
                        refine lv_iadd hx hb dX10_sheet_102 ?_
                        refine lv_iconst (v := 0) hx hb dX10_sheet_103 (by decide) ?_
                        obtain ⟨i116, h⟩ := g_ix h
                        refine g_iast hx hb hE hP hS (by decide) rfl (by decide) i116 dX10_sheet_104 (fun H locs σ117 eσ117 hP hS => ?_)
                        have h := g_nm eσ117 h
                        obtain ⟨x118, ex118⟩ : ∃ y : Int32, y = l114_4 + 1 := ⟨_, rfl⟩
                        have h := g_nm ex118 h
                        refine lv_iinc (v := x118) (lv' := [(4, .int x118), (0, .ref (G.2.2.1 101)), (1, .int a1), (2, .int a2), (3, .int a3)]) hx hb dX10_sheet_105 hl (k := 0) rfl (by rw [ex118]; rfl) (by decide) rfl (fun ls hl => ?_)
                        refine lv_goto (tgt := 85) hx hb dX10_sheet_108 (by decide) ?_
                        exact ihL114 _ _ _ _ _ h hP hS (lv_sub hl [0, 1, 2, 3, 4] rfl)
                  refine LPL114 _ (fun z119 σ120 H locs ls h hP hS hl => ?_) gFu _ _ _ _ _ h hP hS (lv_sub hl [0, 1, 2, 3, 4] rfl)
                  refine lv_aload_n hx hb dX10_sheet_111 rfl (lv_at hl 1 rfl) ?_
                  refine g_get hx hb ht hown hE hP (by decide) gE_101 uX10 rfl 5 (by decide) m_795 rfl rfl dX10_sheet_112 ?_
                  refine lv_iload_n hx hb dX10_sheet_115 rfl (lv_at hl 2 rfl) ?_
                  obtain ⟨i121, h⟩ := g_ix h
                  refine g_iald hx hb hE hP (by decide) rfl (by decide) i121 dX10_sheet_116 ?_
                  exact g_iret hx hb hr hlk hE hP hS h dX10_sheet_117
              · have h := g_iff c98 h
                refine lv_aload_n hx hb dX10_sheet_53 rfl (lv_at hl 0 rfl) ?_
                refine lv_ldc hx hb hown (ht _ m_837) dX10_sheet_54 ?_
                obtain ⟨r123, σ122, hcr123, h⟩ := g_bd h
                refine g_callV (As := [.int (-100001)]) (n := 1) hx hb hml hown ht (c_X10_finding l G _ _ hcr123) m_838 m_840 m_14 m_41 m_841 (by decide +kernel) (by decide) gE_101 rfl hE hP hS (fun _ h => h) (fun _ _ h => h) rfl hl.1 rfl (Nat.le_of_ble_eq_true rfl) dX10_sheet_56 ⟨by decide, by decide⟩ ⟨Nat.zero_le _, Nat.zero_le _⟩ (fun H locs hP hS => ?_)
                exact g_iret hx hb hr hlk hE hP hS h dX10_sheet_59
            · have h := g_iff c97 h
              refine lv_aload_n hx hb dX10_sheet_40 rfl (lv_at hl 0 rfl) ?_
              refine lv_ldc hx hb hown (ht _ m_851) dX10_sheet_41 ?_
              obtain ⟨r125, σ124, hcr125, h⟩ := g_bd h
              refine g_callV (As := [.int (-100003)]) (n := 1) hx hb hml hown ht (c_X10_finding l G _ _ hcr125) m_838 m_840 m_14 m_41 m_841 (by decide +kernel) (by decide) gE_101 rfl hE hP hS (fun _ h => h) (fun _ _ h => h) rfl hl.1 rfl (Nat.le_of_ble_eq_true rfl) dX10_sheet_43 ⟨by decide, by decide⟩ ⟨Nat.zero_le _, Nat.zero_le _⟩ (fun H locs hP hS => ?_)
              exact g_iret hx hb hr hlk hE hP hS h dX10_sheet_46
          · have h := g_iff c96 h
            refine lv_aload_n hx hb dX10_sheet_29 rfl (lv_at hl 0 rfl) ?_
            refine lv_ldc hx hb hown (ht _ m_837) dX10_sheet_30 ?_
            obtain ⟨r127, σ126, hcr127, h⟩ := g_bd h
            refine g_callV (As := [.int (-100001)]) (n := 1) hx hb hml hown ht (c_X10_finding l G _ _ hcr127) m_838 m_840 m_14 m_41 m_841 (by decide +kernel) (by decide) gE_101 rfl hE hP hS (fun _ h => h) (fun _ _ h => h) rfl hl.1 rfl (Nat.le_of_ble_eq_true rfl) dX10_sheet_32 ⟨by decide, by decide⟩ ⟨Nat.zero_le _, Nat.zero_le _⟩ (fun H locs hP hS => ?_)
            exact g_iret hx hb hr hlk hE hP hS h dX10_sheet_35

def M_X10_put (a1 a2 a3 : Int32) (σ : gSt) : gO :=
  gBd (M_X10_isSheet a1 σ) (fun r2 σ1 => if r2 = 0 then (gBd (M_X10_finding (-100001) σ1) (fun r19 σ18 => some (r19, σ18))) else (gIx 4 a1 (if (σ1 104 a1.toNatClampNeg) = 0 then (gBd (M_X10_finding (-100002) σ1) (fun r17 σ16 => some (r17, σ16))) else (gIx 4 a1 (gBd (M_X10_within a2 0 ((σ1 105 a1.toNatClampNeg) - 1) σ1) (fun r8 σ7 => if r8 = 0 then (gBd (M_X10_finding (-100001) σ7) (fun r15 σ14 => some (r15, σ14))) else (gIx 4 a1 (gNm (((32 : Int32) - (σ7 104 a1.toNatClampNeg)) : Int32) (fun x11 => gIx 240 (((60 : Int32) * a1) + a2) (gNm (gUp σ7 106 (((60 : Int32) * a1) + a2).toNatClampNeg ((a3 <<< (x11 &&& 31)) >>> (x11 &&& 31))) (fun σ13 => some (0, σ13))))))))))))
set_option maxHeartbeats 4000000 in
set_option maxRecDepth 100000 in
theorem c_X10_put (l : Launch) (G : gPar) (a1 a2 a3 : Int32) (σ : gSt) {r : Int32} {σ' : gSt} (h : M_X10_put a1 a2 a3 σ = some (r, σ')) : gC l G yX10_put cX10_put 5 (some .int) 2 42 [.ref (G.2.2.1 101), .int a1, .int a2, .int a3] σ r σ' := by
  refine gC_of (by decide) (Nat.le_of_ble_eq_true rfl) ?_
  intro p e s m below meth c hx hb hr ht hown hlk hml hE hP ls hl
  have hS : va_S (gA G) s.heap s.heap [] := va_S.rf
  have hl : lv_has ls 5 [(0, .ref (G.2.2.1 101)), (1, .int a1), (2, .int a2), (3, .int a3)] := hl
  unfold M_X10_put at h
  refine lv_iload_n hx hb dX10_put_0 rfl (lv_at hl 1 rfl) ?_
  obtain ⟨r2, σ1, hcr2, h⟩ := g_bd h
  refine g_callS (As := [.int a1]) (n := 1) hx hb hml hown ht (c_X10_isSheet l G _ _ hcr2) m_1027 m_1028 m_41 m_1029 (by decide +kernel) hE hP hS (fun _ h => h) (fun _ _ h => h) rfl hl.1 rfl (Nat.le_of_ble_eq_true rfl) dX10_put_1 ⟨by decide, by decide⟩ ⟨Nat.zero_le _, Nat.zero_le _⟩ (fun H locs hP hS => ?_)
  refine lv_if_ne (tgt := 14) hx hb dX10_put_4 (by decide) (fun c3 => ?_) (fun c3 => ?_)
  · have h := g_iff c3 h
    refine lv_aload_n hx hb dX10_put_14 rfl (lv_at hl 0 rfl) ?_
    refine g_get hx hb ht hown hE hP (by decide) gE_101 uX10 rfl 4 (by decide) m_794 rfl rfl dX10_put_15 ?_
    refine lv_iload_n hx hb dX10_put_18 rfl (lv_at hl 1 rfl) ?_
    obtain ⟨i4, h⟩ := g_ix h
    refine g_iald hx hb hE hP (by decide) rfl (by decide) i4 dX10_put_19 ?_
    refine lv_if_ne (tgt := 30) hx hb dX10_put_20 (by decide) (fun c5 => ?_) (fun c5 => ?_)
    · have h := g_iff c5 h
      refine lv_iload_n hx hb dX10_put_30 rfl (lv_at hl 2 rfl) ?_
      refine lv_iconst (v := 0) hx hb dX10_put_31 (by decide) ?_
      refine lv_aload_n hx hb dX10_put_32 rfl (lv_at hl 0 rfl) ?_
      refine g_get hx hb ht hown hE hP (by decide) gE_101 uX10 rfl 5 (by decide) m_795 rfl rfl dX10_put_33 ?_
      refine lv_iload_n hx hb dX10_put_36 rfl (lv_at hl 1 rfl) ?_
      obtain ⟨i6, h⟩ := g_ix h
      refine g_iald hx hb hE hP (by decide) rfl (by decide) i6 dX10_put_37 ?_
      refine lv_iconst (v := 1) hx hb dX10_put_38 (by decide) ?_
      refine lv_isub hx hb dX10_put_39 ?_
      obtain ⟨r8, σ7, hcr8, h⟩ := g_bd h
      refine g_callS (As := [.int a2, .int 0, .int ((σ1 105 a1.toNatClampNeg) - 1)]) (n := 3) hx hb hml hown ht (c_X10_within l G _ _ _ _ hcr8) m_834 m_835 m_41 m_836 (by decide +kernel) hE hP hS (fun _ h => h) (fun _ _ h => h) rfl hl.1 rfl (Nat.le_of_ble_eq_true rfl) dX10_put_40 ⟨by decide, by decide⟩ ⟨Nat.zero_le _, Nat.zero_le _⟩ (fun H locs hP hS => ?_)
      refine lv_if_ne (tgt := 53) hx hb dX10_put_43 (by decide) (fun c9 => ?_) (fun c9 => ?_)
      · have h := g_iff c9 h
        refine lv_bipush (v := 32) hx hb dX10_put_53 (by decide) ?_
        refine lv_aload_n hx hb dX10_put_55 rfl (lv_at hl 0 rfl) ?_
        refine g_get hx hb ht hown hE hP (by decide) gE_101 uX10 rfl 4 (by decide) m_794 rfl rfl dX10_put_56 ?_
        refine lv_iload_n hx hb dX10_put_59 rfl (lv_at hl 1 rfl) ?_
        obtain ⟨i10, h⟩ := g_ix h
        refine g_iald hx hb hE hP (by decide) rfl (by decide) i10 dX10_put_60 ?_
        refine lv_isub hx hb dX10_put_61 ?_
        refine lv_topi (fun x11 ex11 => ?_)
        have h := g_nm ex11 h
        refine lv_istore (lv' := [(4, .int x11), (0, .ref (G.2.2.1 101)), (1, .int a1), (2, .int a2), (3, .int a3)]) hx hb dX10_put_62 hl (by decide) rfl (fun ls hl => ?_)
        refine lv_aload_n hx hb dX10_put_64 rfl (lv_at hl 1 rfl) ?_
        refine g_get hx hb ht hown hE hP (by decide) gE_101 uX10 rfl 6 (by decide) m_796 rfl rfl dX10_put_65 ?_
        refine lv_bipush (v := 60) hx hb dX10_put_68 (by decide) ?_
        refine lv_iload_n hx hb dX10_put_70 rfl (lv_at hl 2 rfl) ?_
        refine lv_imul hx hb dX10_put_71 ?_
        refine lv_iload_n hx hb dX10_put_72 rfl (lv_at hl 3 rfl) ?_
        refine lv_iadd hx hb dX10_put_73 ?_
        refine lv_iload_n hx hb dX10_put_74 rfl (lv_at hl 4 rfl) ?_
        refine lv_iload hx hb dX10_put_75 (lv_at hl 0 rfl) ?_
        refine lv_ishl hx hb dX10_put_77 ?_
        refine lv_iload hx hb dX10_put_78 (lv_at hl 0 rfl) ?_
        refine lv_ishr hx hb dX10_put_80 ?_
        obtain ⟨i12, h⟩ := g_ix h
        refine g_iast hx hb hE hP hS (by decide) rfl (by decide) i12 dX10_put_81 (fun H locs σ13 eσ13 hP hS => ?_)
        have h := g_nm eσ13 h
        refine lv_iconst (v := 0) hx hb dX10_put_82 (by decide) ?_
        exact g_iret hx hb hr hlk hE hP hS h dX10_put_83
      · have h := g_ift c9 h
        refine lv_aload_n hx hb dX10_put_46 rfl (lv_at hl 0 rfl) ?_
        refine lv_ldc hx hb hown (ht _ m_837) dX10_put_47 ?_
        obtain ⟨r15, σ14, hcr15, h⟩ := g_bd h
        refine g_callV (As := [.int (-100001)]) (n := 1) hx hb hml hown ht (c_X10_finding l G _ _ hcr15) m_838 m_840 m_14 m_41 m_841 (by decide +kernel) (by decide) gE_101 rfl hE hP hS (fun _ h => h) (fun _ _ h => h) rfl hl.1 rfl (Nat.le_of_ble_eq_true rfl) dX10_put_49 ⟨by decide, by decide⟩ ⟨Nat.zero_le _, Nat.zero_le _⟩ (fun H locs hP hS => ?_)
        exact g_iret hx hb hr hlk hE hP hS h dX10_put_52
    · have h := g_ift c5 h
      refine lv_aload_n hx hb dX10_put_23 rfl (lv_at hl 0 rfl) ?_
      refine lv_ldc hx hb hown (ht _ m_1006) dX10_put_24 ?_
      obtain ⟨r17, σ16, hcr17, h⟩ := g_bd h
      refine g_callV (As := [.int (-100002)]) (n := 1) hx hb hml hown ht (c_X10_finding l G _ _ hcr17) m_838 m_840 m_14 m_41 m_841 (by decide +kernel) (by decide) gE_101 rfl hE hP hS (fun _ h => h) (fun _ _ h => h) rfl hl.1 rfl (Nat.le_of_ble_eq_true rfl) dX10_put_26 ⟨by decide, by decide⟩ ⟨Nat.zero_le _, Nat.zero_le _⟩ (fun H locs hP hS => ?_)
      exact g_iret hx hb hr hlk hE hP hS h dX10_put_29
  · have h := g_ift c3 h
    refine lv_aload_n hx hb dX10_put_7 rfl (lv_at hl 0 rfl) ?_
    refine lv_ldc hx hb hown (ht _ m_837) dX10_put_8 ?_
    obtain ⟨r19, σ18, hcr19, h⟩ := g_bd h
    refine g_callV (As := [.int (-100001)]) (n := 1) hx hb hml hown ht (c_X10_finding l G _ _ hcr19) m_838 m_840 m_14 m_41 m_841 (by decide +kernel) (by decide) gE_101 rfl hE hP hS (fun _ h => h) (fun _ _ h => h) rfl hl.1 rfl (Nat.le_of_ble_eq_true rfl) dX10_put_10 ⟨by decide, by decide⟩ ⟨Nat.zero_le _, Nat.zero_le _⟩ (fun H locs hP hS => ?_)
    exact g_iret hx hb hr hlk hE hP hS h dX10_put_13

def L33_X10_copy (a1 a2 a3 a4 a5 : Int32) : Nat → Int32 → gSt → (Int32 → gSt → gO) → gO
  | 0, _, _, _ => none
  | nL33 + 1, l33_6, σL33, kL33 =>
    if a5 ≤ l33_6 then (kL33 l33_6 σL33) else (gIx 240 ((((60 : Int32) * a1) + a2) + l33_6) (gIx 60 l33_6 (gNm (gUp σL33 91 l33_6.toNatClampNeg (σL33 106 ((((60 : Int32) * a1) + a2) + l33_6).toNatClampNeg)) (fun σ37 => gNm (l33_6 + 1 : Int32) (fun x38 => L33_X10_copy a1 a2 a3 a4 a5 nL33 x38 σ37 kL33)))))
def L41_X10_copy (a1 a2 a3 a4 a5 : Int32) : Nat → Int32 → gSt → (Int32 → gSt → gO) → gO
  | 0, _, _, _ => none
  | nL41 + 1, l41_6, σL41, kL41 =>
    if a5 ≤ l41_6 then (kL41 l41_6 σL41) else (gIx 60 l41_6 (gIx 240 ((((60 : Int32) * a3) + a4) + l41_6) (gNm (gUp σL41 106 ((((60 : Int32) * a3) + a4) + l41_6).toNatClampNeg (σL41 91 l41_6.toNatClampNeg)) (fun σ45 => gNm (l41_6 + 1 : Int32) (fun x46 => L41_X10_copy a1 a2 a3 a4 a5 nL41 x46 σ45 kL41)))))
def M_X10_copy (a1 a2 a3 a4 a5 : Int32) (σ : gSt) : gO :=
  gBd (M_X10_isSheet a1 σ) (fun r2 σ1 => if r2 = 0 then (gBd (M_X10_finding (-100001) σ1) (fun r5 σ4 => some (r5, σ4))) else (gBd (M_X10_isSheet a3 σ1) (fun r7 σ6 => if r7 = 0 then (gBd (M_X10_finding (-100001) σ6) (fun r56 σ55 => some (r56, σ55))) else (gIx 4 a1 (if (σ6 104 a1.toNatClampNeg) = 0 then (gBd (M_X10_finding (-100002) σ6) (fun r12 σ11 => some (r12, σ11))) else (gIx 4 a3 (if (σ6 104 a3.toNatClampNeg) = 0 then (gBd (M_X10_finding (-100002) σ6) (fun r54 σ53 => some (r54, σ53))) else (gIx 4 a1 (gIx 4 a3 (if (σ6 104 a1.toNatClampNeg) = (σ6 104 a3.toNatClampNeg) then (if a2 < 0 then (gBd (M_X10_finding (-100001) σ6) (fun r20 σ19 => some (r20, σ19))) else (if a4 < 0 then (gBd (M_X10_finding (-100001) σ6) (fun r23 σ22 => some (r23, σ22))) else (if a5 < 0 then (gBd (M_X10_finding (-100001) σ6) (fun r26 σ25 => some (r26, σ25))) else (gIx 4 a1 (if 0 < (lg_cmp (a2.toInt64 + a5.toInt64) (σ6 105 a1.toNatClampNeg).toInt64) then (gBd (M_X10_finding (-100001) σ6) (fun r30 σ29 => some (r30, σ29))) else (gIx 4 a3 (if (lg_cmp (a4.toInt64 + a5.toInt64) (σ6 105 a3.toNatClampNeg).toInt64) ≤ 0 then (L33_X10_copy a1 a2 a3 a4 a5 gFu 0 σ6 (fun z39 σ40 => L41_X10_copy a1 a2 a3 a4 a5 gFu 0 σ40 (fun z47 σ48 => some (a5, σ48)))) else (gBd (M_X10_finding (-100001) σ6) (fun r50 σ49 => some (r50, σ49)))))))))) else (gBd (M_X10_finding (-100004) σ6) (fun r52 σ51 => some (r52, σ51)))))))))))))
set_option maxHeartbeats 4000000 in
set_option maxRecDepth 100000 in
theorem c_X10_copy (l : Launch) (G : gPar) (a1 a2 a3 a4 a5 : Int32) (σ : gSt) {r : Int32} {σ' : gSt} (h : M_X10_copy a1 a2 a3 a4 a5 σ = some (r, σ')) : gC l G yX10_copy cX10_copy 7 (some .int) 2 42 [.ref (G.2.2.1 101), .int a1, .int a2, .int a3, .int a4, .int a5] σ r σ' := by
  refine gC_of (by decide) (Nat.le_of_ble_eq_true rfl) ?_
  intro p e s m below meth c hx hb hr ht hown hlk hml hE hP ls hl
  have hS : va_S (gA G) s.heap s.heap [] := va_S.rf
  have hl : lv_has ls 7 [(0, .ref (G.2.2.1 101)), (1, .int a1), (2, .int a2), (3, .int a3), (4, .int a4), (5, .int a5)] := hl
  unfold M_X10_copy at h
  refine lv_iload_n hx hb dX10_copy_0 rfl (lv_at hl 1 rfl) ?_
  obtain ⟨r2, σ1, hcr2, h⟩ := g_bd h
  refine g_callS (As := [.int a1]) (n := 1) hx hb hml hown ht (c_X10_isSheet l G _ _ hcr2) m_1027 m_1028 m_41 m_1029 (by decide +kernel) hE hP hS (fun _ h => h) (fun _ _ h => h) rfl hl.1 rfl (Nat.le_of_ble_eq_true rfl) dX10_copy_1 ⟨by decide, by decide⟩ ⟨Nat.zero_le _, Nat.zero_le _⟩ (fun H locs hP hS => ?_)
  refine lv_if_eq (tgt := 14) hx hb dX10_copy_4 (by decide) (fun c3 => ?_) (fun c3 => ?_)
  · have h := g_ift c3 h
    refine lv_aload_n hx hb dX10_copy_14 rfl (lv_at hl 0 rfl) ?_
    refine lv_ldc hx hb hown (ht _ m_837) dX10_copy_15 ?_
    obtain ⟨r5, σ4, hcr5, h⟩ := g_bd h
    refine g_callV (As := [.int (-100001)]) (n := 1) hx hb hml hown ht (c_X10_finding l G _ _ hcr5) m_838 m_840 m_14 m_41 m_841 (by decide +kernel) (by decide) gE_101 rfl hE hP hS (fun _ h => h) (fun _ _ h => h) rfl hl.1 rfl (Nat.le_of_ble_eq_true rfl) dX10_copy_17 ⟨by decide, by decide⟩ ⟨Nat.zero_le _, Nat.zero_le _⟩ (fun H locs hP hS => ?_)
    exact g_iret hx hb hr hlk hE hP hS h dX10_copy_20
  · have h := g_iff c3 h
    refine lv_iload_n hx hb dX10_copy_7 rfl (lv_at hl 3 rfl) ?_
    obtain ⟨r7, σ6, hcr7, h⟩ := g_bd h
    refine g_callS (As := [.int a3]) (n := 1) hx hb hml hown ht (c_X10_isSheet l G _ _ hcr7) m_1027 m_1028 m_41 m_1029 (by decide +kernel) hE hP hS (fun _ h => h) (fun _ _ h => h) rfl hl.1 rfl (Nat.le_of_ble_eq_true rfl) dX10_copy_8 ⟨by decide, by decide⟩ ⟨Nat.zero_le _, Nat.zero_le _⟩ (fun H locs hP hS => ?_)
    refine lv_if_ne (tgt := 21) hx hb dX10_copy_11 (by decide) (fun c8 => ?_) (fun c8 => ?_)
    · have h := g_iff c8 h
      refine lv_aload_n hx hb dX10_copy_21 rfl (lv_at hl 0 rfl) ?_
      refine g_get hx hb ht hown hE hP (by decide) gE_101 uX10 rfl 4 (by decide) m_794 rfl rfl dX10_copy_22 ?_
      refine lv_iload_n hx hb dX10_copy_25 rfl (lv_at hl 1 rfl) ?_
      obtain ⟨i9, h⟩ := g_ix h
      refine g_iald hx hb hE hP (by decide) rfl (by decide) i9 dX10_copy_26 ?_
      refine lv_if_eq (tgt := 39) hx hb dX10_copy_27 (by decide) (fun c10 => ?_) (fun c10 => ?_)
      · have h := g_ift c10 h
        refine lv_aload_n hx hb dX10_copy_39 rfl (lv_at hl 0 rfl) ?_
        refine lv_ldc hx hb hown (ht _ m_1006) dX10_copy_40 ?_
        obtain ⟨r12, σ11, hcr12, h⟩ := g_bd h
        refine g_callV (As := [.int (-100002)]) (n := 1) hx hb hml hown ht (c_X10_finding l G _ _ hcr12) m_838 m_840 m_14 m_41 m_841 (by decide +kernel) (by decide) gE_101 rfl hE hP hS (fun _ h => h) (fun _ _ h => h) rfl hl.1 rfl (Nat.le_of_ble_eq_true rfl) dX10_copy_42 ⟨by decide, by decide⟩ ⟨Nat.zero_le _, Nat.zero_le _⟩ (fun H locs hP hS => ?_)
        exact g_iret hx hb hr hlk hE hP hS h dX10_copy_45
      · have h := g_iff c10 h
        refine lv_aload_n hx hb dX10_copy_30 rfl (lv_at hl 0 rfl) ?_
        refine g_get hx hb ht hown hE hP (by decide) gE_101 uX10 rfl 4 (by decide) m_794 rfl rfl dX10_copy_31 ?_
        refine lv_iload_n hx hb dX10_copy_34 rfl (lv_at hl 3 rfl) ?_
        obtain ⟨i13, h⟩ := g_ix h
        refine g_iald hx hb hE hP (by decide) rfl (by decide) i13 dX10_copy_35 ?_
        refine lv_if_ne (tgt := 46) hx hb dX10_copy_36 (by decide) (fun c14 => ?_) (fun c14 => ?_)
        · have h := g_iff c14 h
          refine lv_aload_n hx hb dX10_copy_46 rfl (lv_at hl 0 rfl) ?_
          refine g_get hx hb ht hown hE hP (by decide) gE_101 uX10 rfl 4 (by decide) m_794 rfl rfl dX10_copy_47 ?_
          refine lv_iload_n hx hb dX10_copy_50 rfl (lv_at hl 1 rfl) ?_
          obtain ⟨i15, h⟩ := g_ix h
          refine g_iald hx hb hE hP (by decide) rfl (by decide) i15 dX10_copy_51 ?_
          refine lv_aload_n hx hb dX10_copy_52 rfl (lv_at hl 0 rfl) ?_
          refine g_get hx hb ht hown hE hP (by decide) gE_101 uX10 rfl 4 (by decide) m_794 rfl rfl dX10_copy_53 ?_
          refine lv_iload_n hx hb dX10_copy_56 rfl (lv_at hl 3 rfl) ?_
          obtain ⟨i16, h⟩ := g_ix h
          refine g_iald hx hb hE hP (by decide) rfl (by decide) i16 dX10_copy_57 ?_
          refine lv_icmp_eq (tgt := 68) hx hb dX10_copy_58 (by decide) (fun c17 => ?_) (fun c17 => ?_)
          · have h := g_ift c17 h
            refine lv_iload_n hx hb dX10_copy_68 rfl (lv_at hl 2 rfl) ?_
            refine lv_if_lt (tgt := 117) hx hb dX10_copy_69 (by decide) (fun c18 => ?_) (fun c18 => ?_)
            · have h := g_ift c18 h
              refine lv_aload_n hx hb dX10_copy_117 rfl (lv_at hl 0 rfl) ?_
              refine lv_ldc hx hb hown (ht _ m_837) dX10_copy_118 ?_
              obtain ⟨r20, σ19, hcr20, h⟩ := g_bd h
              refine g_callV (As := [.int (-100001)]) (n := 1) hx hb hml hown ht (c_X10_finding l G _ _ hcr20) m_838 m_840 m_14 m_41 m_841 (by decide +kernel) (by decide) gE_101 rfl hE hP hS (fun _ h => h) (fun _ _ h => h) rfl hl.1 rfl (Nat.le_of_ble_eq_true rfl) dX10_copy_120 ⟨by decide, by decide⟩ ⟨Nat.zero_le _, Nat.zero_le _⟩ (fun H locs hP hS => ?_)
              exact g_iret hx hb hr hlk hE hP hS h dX10_copy_123
            · have h := g_iff c18 h
              refine lv_iload hx hb dX10_copy_72 (lv_at hl 4 rfl) ?_
              refine lv_if_lt (tgt := 117) hx hb dX10_copy_74 (by decide) (fun c21 => ?_) (fun c21 => ?_)
              · have h := g_ift c21 h
                refine lv_aload_n hx hb dX10_copy_117 rfl (lv_at hl 0 rfl) ?_
                refine lv_ldc hx hb hown (ht _ m_837) dX10_copy_118 ?_
                obtain ⟨r23, σ22, hcr23, h⟩ := g_bd h
                refine g_callV (As := [.int (-100001)]) (n := 1) hx hb hml hown ht (c_X10_finding l G _ _ hcr23) m_838 m_840 m_14 m_41 m_841 (by decide +kernel) (by decide) gE_101 rfl hE hP hS (fun _ h => h) (fun _ _ h => h) rfl hl.1 rfl (Nat.le_of_ble_eq_true rfl) dX10_copy_120 ⟨by decide, by decide⟩ ⟨Nat.zero_le _, Nat.zero_le _⟩ (fun H locs hP hS => ?_)
                exact g_iret hx hb hr hlk hE hP hS h dX10_copy_123
              · have h := g_iff c21 h
                refine lv_iload hx hb dX10_copy_77 (lv_at hl 5 rfl) ?_
                refine lv_if_lt (tgt := 117) hx hb dX10_copy_79 (by decide) (fun c24 => ?_) (fun c24 => ?_)
                · have h := g_ift c24 h
                  refine lv_aload_n hx hb dX10_copy_117 rfl (lv_at hl 0 rfl) ?_
                  refine lv_ldc hx hb hown (ht _ m_837) dX10_copy_118 ?_
                  obtain ⟨r26, σ25, hcr26, h⟩ := g_bd h
                  refine g_callV (As := [.int (-100001)]) (n := 1) hx hb hml hown ht (c_X10_finding l G _ _ hcr26) m_838 m_840 m_14 m_41 m_841 (by decide +kernel) (by decide) gE_101 rfl hE hP hS (fun _ h => h) (fun _ _ h => h) rfl hl.1 rfl (Nat.le_of_ble_eq_true rfl) dX10_copy_120 ⟨by decide, by decide⟩ ⟨Nat.zero_le _, Nat.zero_le _⟩ (fun H locs hP hS => ?_)
                  exact g_iret hx hb hr hlk hE hP hS h dX10_copy_123
                · have h := g_iff c24 h
                  refine lv_iload_n hx hb dX10_copy_82 rfl (lv_at hl 2 rfl) ?_
                  refine lv_i2l (v := a2.toInt64) hx hb dX10_copy_83 rfl ?_
                  refine lv_iload hx hb dX10_copy_84 (lv_at hl 5 rfl) ?_
                  refine lv_i2l (v := a5.toInt64) hx hb dX10_copy_86 rfl ?_
                  refine lv_ladd hx hb dX10_copy_87 ?_
                  refine lv_aload_n hx hb dX10_copy_88 rfl (lv_at hl 0 rfl) ?_
                  refine g_get hx hb ht hown hE hP (by decide) gE_101 uX10 rfl 5 (by decide) m_795 rfl rfl dX10_copy_89 ?_
                  refine lv_iload_n hx hb dX10_copy_92 rfl (lv_at hl 1 rfl) ?_
                  obtain ⟨i27, h⟩ := g_ix h
                  refine g_iald hx hb hE hP (by decide) rfl (by decide) i27 dX10_copy_93 ?_
                  refine lv_i2l (v := (σ6 105 a1.toNatClampNeg).toInt64) hx hb dX10_copy_94 rfl ?_
                  refine W.lcmp hx hb dX10_copy_95 ?_
                  refine lv_if_gt (tgt := 117) hx hb dX10_copy_96 (by decide) (fun c28 => ?_) (fun c28 => ?_)
                  · have h := g_ift c28 h
                    refine lv_aload_n hx hb dX10_copy_117 rfl (lv_at hl 0 rfl) ?_
                    refine lv_ldc hx hb hown (ht _ m_837) dX10_copy_118 ?_
                    obtain ⟨r30, σ29, hcr30, h⟩ := g_bd h
                    refine g_callV (As := [.int (-100001)]) (n := 1) hx hb hml hown ht (c_X10_finding l G _ _ hcr30) m_838 m_840 m_14 m_41 m_841 (by decide +kernel) (by decide) gE_101 rfl hE hP hS (fun _ h => h) (fun _ _ h => h) rfl hl.1 rfl (Nat.le_of_ble_eq_true rfl) dX10_copy_120 ⟨by decide, by decide⟩ ⟨Nat.zero_le _, Nat.zero_le _⟩ (fun H locs hP hS => ?_)
                    exact g_iret hx hb hr hlk hE hP hS h dX10_copy_123
                  · have h := g_iff c28 h
                    refine lv_iload hx hb dX10_copy_99 (lv_at hl 4 rfl) ?_
                    refine lv_i2l (v := a4.toInt64) hx hb dX10_copy_101 rfl ?_
                    refine lv_iload hx hb dX10_copy_102 (lv_at hl 5 rfl) ?_
                    refine lv_i2l (v := a5.toInt64) hx hb dX10_copy_104 rfl ?_
                    refine lv_ladd hx hb dX10_copy_105 ?_
                    refine lv_aload_n hx hb dX10_copy_106 rfl (lv_at hl 0 rfl) ?_
                    refine g_get hx hb ht hown hE hP (by decide) gE_101 uX10 rfl 5 (by decide) m_795 rfl rfl dX10_copy_107 ?_
                    refine lv_iload_n hx hb dX10_copy_110 rfl (lv_at hl 3 rfl) ?_
                    obtain ⟨i31, h⟩ := g_ix h
                    refine g_iald hx hb hE hP (by decide) rfl (by decide) i31 dX10_copy_111 ?_
                    refine lv_i2l (v := (σ6 105 a3.toNatClampNeg).toInt64) hx hb dX10_copy_112 rfl ?_
                    refine W.lcmp hx hb dX10_copy_113 ?_
                    refine lv_if_le (tgt := 124) hx hb dX10_copy_114 (by decide) (fun c32 => ?_) (fun c32 => ?_)
                    · have h := g_ift c32 h
                      refine lv_iconst (v := 0) hx hb dX10_copy_124 (by decide) ?_
                      refine lv_istore (lv' := [(6, .int 0), (0, .ref (G.2.2.1 101)), (1, .int a1), (2, .int a2), (3, .int a3), (4, .int a4), (5, .int a5)]) hx hb dX10_copy_125 hl (by decide) rfl (fun ls hl => ?_)
                      have LPL33 : ∀ (kL33 : Int32 → gSt → gO), (∀ (l33_6 : Int32) (σL33 : gSt) (H : Heap) (locs : List Loc) (ls : Array Slot), kL33 l33_6 σL33 = some (r, σ') → gW G σL33 H → va_S (gA G) s.heap H locs → lv_has ls 7 [(6, .int l33_6), (0, .ref (G.2.2.1 101)), (1, .int a1), (2, .int a2), (3, .int a3), (4, .int a4), (5, .int a5)] → W p l e (gRm 2 42) s m ([.ref (G.2.2.1 101), .int a1, .int a2, .int a3, .int a4, .int a5].toArray) below meth c H locs 0 0 (MQ below (gQ G r σ') ([.ref (G.2.2.1 101), .int a1, .int a2, .int a3, .int a4, .int a5].toArray) s 0 0 (gA G)) (F0 m 161 ls [])) → ∀ (nL33 : Nat) (l33_6 : Int32) (σL33 : gSt) (H : Heap) (locs : List Loc) (ls : Array Slot), L33_X10_copy a1 a2 a3 a4 a5 nL33 l33_6 σL33 kL33 = some (r, σ') → gW G σL33 H → va_S (gA G) s.heap H locs → lv_has ls 7 [(6, .int l33_6), (0, .ref (G.2.2.1 101)), (1, .int a1), (2, .int a2), (3, .int a3), (4, .int a4), (5, .int a5)] → W p l e (gRm 2 42) s m ([.ref (G.2.2.1 101), .int a1, .int a2, .int a3, .int a4, .int a5].toArray) below meth c H locs 0 0 (MQ below (gQ G r σ') ([.ref (G.2.2.1 101), .int a1, .int a2, .int a3, .int a4, .int a5].toArray) s 0 0 (gA G)) (F0 m 127 ls []) := by
                        intro kL33 hKL33 nL33
                        induction nL33 with
                        | zero =>
                          intro l33_6 σL33 H locs ls h
                          cases h
                        | succ nL33 ihL33 =>
                          intro l33_6 σL33 H locs ls h hP hS hl
                          rw [L33_X10_copy] at h
                          refine lv_iload hx hb dX10_copy_127 (lv_at hl 0 rfl) ?_
                          refine lv_iload hx hb dX10_copy_129 (lv_at hl 6 rfl) ?_
                          refine lv_icmp_ge (tgt := 161) hx hb dX10_copy_131 (by decide) (fun c34 => ?_) (fun c34 => ?_)
                          · have h := g_ift c34 h
                            exact hKL33 _ _ _ _ _ h hP hS (lv_sub hl [0, 1, 2, 3, 4, 5, 6] rfl)
                          · have h := g_iff c34 h
                            refine lv_aload_n hx hb dX10_copy_134 rfl (lv_at hl 1 rfl) ?_
                            refine g_get hx hb ht hown hE hP (by decide) gE_101 uX10 rfl 12 (by decide) m_802 rfl rfl dX10_copy_135 ?_
                            refine lv_iload hx hb dX10_copy_138 (lv_at hl 0 rfl) ?_
                            refine lv_aload_n hx hb dX10_copy_140 rfl (lv_at hl 1 rfl) ?_
                            refine g_get hx hb ht hown hE hP (by decide) gE_101 uX10 rfl 6 (by decide) m_796 rfl rfl dX10_copy_141 ?_
                            refine lv_bipush (v := 60) hx hb dX10_copy_144 (by decide) ?_
                            refine lv_iload_n hx hb dX10_copy_146 rfl (lv_at hl 2 rfl) ?_
                            refine lv_imul hx hb dX10_copy_147 ?_
                            refine lv_iload_n hx hb dX10_copy_148 rfl (lv_at hl 3 rfl) ?_
                            refine lv_iadd hx hb dX10_copy_149 ?_
                            refine lv_iload hx hb dX10_copy_150 (lv_at hl 0 rfl) ?_
                            refine lv_iadd hx hb dX10_copy_152 ?_
                            obtain ⟨i35, h⟩ := g_ix h
                            refine g_iald hx hb hE hP (by decide) rfl (by decide) i35 dX10_copy_153 ?_
                            obtain ⟨i36, h⟩ := g_ix h
                            refine g_iast hx hb hE hP hS (by decide) rfl (by decide) i36 dX10_copy_154 (fun H locs σ37 eσ37 hP hS => ?_)
                            have h := g_nm eσ37 h
                            obtain ⟨x38, ex38⟩ : ∃ y : Int32, y = l33_6 + 1 := ⟨_, rfl⟩
                            have h := g_nm ex38 h
                            refine lv_iinc (v := x38) (lv' := [(6, .int x38), (0, .ref (G.2.2.1 101)), (1, .int a1), (2, .int a2), (3, .int a3), (4, .int a4), (5, .int a5)]) hx hb dX10_copy_155 hl (k := 0) rfl (by rw [ex38]; rfl) (by decide) rfl (fun ls hl => ?_)
                            refine lv_goto (tgt := 127) hx hb dX10_copy_158 (by decide) ?_
                            exact ihL33 _ _ _ _ _ h hP hS (lv_sub hl [0, 1, 2, 3, 4, 5, 6] rfl)
                      refine LPL33 _ (fun z39 σ40 H locs ls h hP hS hl => ?_) gFu _ _ _ _ _ h hP hS (lv_sub hl [0, 1, 2, 3, 4, 5, 6] rfl)
                      refine lv_iconst (v := 0) hx hb dX10_copy_161 (by decide) ?_
                      refine lv_istore (lv' := [(6, .int 0), (0, .ref (G.2.2.1 101)), (1, .int a1), (2, .int a2), (3, .int a3), (4, .int a4), (5, .int a5)]) hx hb dX10_copy_162 hl (by decide) rfl (fun ls hl => ?_)
                      have LPL41 : ∀ (kL41 : Int32 → gSt → gO), (∀ (l41_6 : Int32) (σL41 : gSt) (H : Heap) (locs : List Loc) (ls : Array Slot), kL41 l41_6 σL41 = some (r, σ') → gW G σL41 H → va_S (gA G) s.heap H locs → lv_has ls 7 [(6, .int l41_6), (0, .ref (G.2.2.1 101)), (1, .int a1), (2, .int a2), (3, .int a3), (4, .int a4), (5, .int a5)] → W p l e (gRm 2 42) s m ([.ref (G.2.2.1 101), .int a1, .int a2, .int a3, .int a4, .int a5].toArray) below meth c H locs 0 0 (MQ below (gQ G r σ') ([.ref (G.2.2.1 101), .int a1, .int a2, .int a3, .int a4, .int a5].toArray) s 0 0 (gA G)) (F0 m 199 ls [])) → ∀ (nL41 : Nat) (l41_6 : Int32) (σL41 : gSt) (H : Heap) (locs : List Loc) (ls : Array Slot), L41_X10_copy a1 a2 a3 a4 a5 nL41 l41_6 σL41 kL41 = some (r, σ') → gW G σL41 H → va_S (gA G) s.heap H locs → lv_has ls 7 [(6, .int l41_6), (0, .ref (G.2.2.1 101)), (1, .int a1), (2, .int a2), (3, .int a3), (4, .int a4), (5, .int a5)] → W p l e (gRm 2 42) s m ([.ref (G.2.2.1 101), .int a1, .int a2, .int a3, .int a4, .int a5].toArray) below meth c H locs 0 0 (MQ below (gQ G r σ') ([.ref (G.2.2.1 101), .int a1, .int a2, .int a3, .int a4, .int a5].toArray) s 0 0 (gA G)) (F0 m 164 ls []) := by
                        intro kL41 hKL41 nL41
                        induction nL41 with
                        | zero =>
                          intro l41_6 σL41 H locs ls h
                          cases h
                        | succ nL41 ihL41 =>
                          intro l41_6 σL41 H locs ls h hP hS hl
                          rw [L41_X10_copy] at h
                          refine lv_iload hx hb dX10_copy_164 (lv_at hl 0 rfl) ?_
                          refine lv_iload hx hb dX10_copy_166 (lv_at hl 6 rfl) ?_
                          refine lv_icmp_ge (tgt := 199) hx hb dX10_copy_168 (by decide) (fun c42 => ?_) (fun c42 => ?_)
                          · have h := g_ift c42 h
                            exact hKL41 _ _ _ _ _ h hP hS (lv_sub hl [0, 1, 2, 3, 4, 5, 6] rfl)
                          · have h := g_iff c42 h
                            refine lv_aload_n hx hb dX10_copy_171 rfl (lv_at hl 1 rfl) ?_
                            refine g_get hx hb ht hown hE hP (by decide) gE_101 uX10 rfl 6 (by decide) m_796 rfl rfl dX10_copy_172 ?_
                            refine lv_bipush (v := 60) hx hb dX10_copy_175 (by decide) ?_
                            refine lv_iload_n hx hb dX10_copy_177 rfl (lv_at hl 4 rfl) ?_
                            refine lv_imul hx hb dX10_copy_178 ?_
                            refine lv_iload hx hb dX10_copy_179 (lv_at hl 5 rfl) ?_
                            refine lv_iadd hx hb dX10_copy_181 ?_
                            refine lv_iload hx hb dX10_copy_182 (lv_at hl 0 rfl) ?_
                            refine lv_iadd hx hb dX10_copy_184 ?_
                            refine lv_aload_n hx hb dX10_copy_185 rfl (lv_at hl 1 rfl) ?_
                            refine g_get hx hb ht hown hE hP (by decide) gE_101 uX10 rfl 12 (by decide) m_802 rfl rfl dX10_copy_186 ?_
                            refine lv_iload hx hb dX10_copy_189 (lv_at hl 0 rfl) ?_
                            obtain ⟨i43, h⟩ := g_ix h
                            refine g_iald hx hb hE hP (by decide) rfl (by decide) i43 dX10_copy_191 ?_
                            obtain ⟨i44, h⟩ := g_ix h
                            refine g_iast hx hb hE hP hS (by decide) rfl (by decide) i44 dX10_copy_192 (fun H locs σ45 eσ45 hP hS => ?_)
                            have h := g_nm eσ45 h
                            obtain ⟨x46, ex46⟩ : ∃ y : Int32, y = l41_6 + 1 := ⟨_, rfl⟩
                            have h := g_nm ex46 h
                            refine lv_iinc (v := x46) (lv' := [(6, .int x46), (0, .ref (G.2.2.1 101)), (1, .int a1), (2, .int a2), (3, .int a3), (4, .int a4), (5, .int a5)]) hx hb dX10_copy_193 hl (k := 0) rfl (by rw [ex46]; rfl) (by decide) rfl (fun ls hl => ?_)
                            refine lv_goto (tgt := 164) hx hb dX10_copy_196 (by decide) ?_
                            exact ihL41 _ _ _ _ _ h hP hS (lv_sub hl [0, 1, 2, 3, 4, 5, 6] rfl)
                      refine LPL41 _ (fun z47 σ48 H locs ls h hP hS hl => ?_) gFu _ _ _ _ _ h hP hS (lv_sub hl [0, 1, 2, 3, 4, 5, 6] rfl)
                      refine lv_iload hx hb dX10_copy_199 (lv_at hl 6 rfl) ?_
                      exact g_iret hx hb hr hlk hE hP hS h dX10_copy_201
                    · have h := g_iff c32 h
                      refine lv_aload_n hx hb dX10_copy_117 rfl (lv_at hl 0 rfl) ?_
                      refine lv_ldc hx hb hown (ht _ m_837) dX10_copy_118 ?_
                      obtain ⟨r50, σ49, hcr50, h⟩ := g_bd h
                      refine g_callV (As := [.int (-100001)]) (n := 1) hx hb hml hown ht (c_X10_finding l G _ _ hcr50) m_838 m_840 m_14 m_41 m_841 (by decide +kernel) (by decide) gE_101 rfl hE hP hS (fun _ h => h) (fun _ _ h => h) rfl hl.1 rfl (Nat.le_of_ble_eq_true rfl) dX10_copy_120 ⟨by decide, by decide⟩ ⟨Nat.zero_le _, Nat.zero_le _⟩ (fun H locs hP hS => ?_)
                      exact g_iret hx hb hr hlk hE hP hS h dX10_copy_123
          · have h := g_iff c17 h
            refine lv_aload_n hx hb dX10_copy_61 rfl (lv_at hl 0 rfl) ?_
            refine lv_ldc hx hb hown (ht _ m_867) dX10_copy_62 ?_
            obtain ⟨r52, σ51, hcr52, h⟩ := g_bd h
            refine g_callV (As := [.int (-100004)]) (n := 1) hx hb hml hown ht (c_X10_finding l G _ _ hcr52) m_838 m_840 m_14 m_41 m_841 (by decide +kernel) (by decide) gE_101 rfl hE hP hS (fun _ h => h) (fun _ _ h => h) rfl hl.1 rfl (Nat.le_of_ble_eq_true rfl) dX10_copy_64 ⟨by decide, by decide⟩ ⟨Nat.zero_le _, Nat.zero_le _⟩ (fun H locs hP hS => ?_)
            exact g_iret hx hb hr hlk hE hP hS h dX10_copy_67
        · have h := g_ift c14 h
          refine lv_aload_n hx hb dX10_copy_39 rfl (lv_at hl 0 rfl) ?_
          refine lv_ldc hx hb hown (ht _ m_1006) dX10_copy_40 ?_
          obtain ⟨r54, σ53, hcr54, h⟩ := g_bd h
          refine g_callV (As := [.int (-100002)]) (n := 1) hx hb hml hown ht (c_X10_finding l G _ _ hcr54) m_838 m_840 m_14 m_41 m_841 (by decide +kernel) (by decide) gE_101 rfl hE hP hS (fun _ h => h) (fun _ _ h => h) rfl hl.1 rfl (Nat.le_of_ble_eq_true rfl) dX10_copy_42 ⟨by decide, by decide⟩ ⟨Nat.zero_le _, Nat.zero_le _⟩ (fun H locs hP hS => ?_)
          exact g_iret hx hb hr hlk hE hP hS h dX10_copy_45
    · have h := g_ift c8 h
      refine lv_aload_n hx hb dX10_copy_14 rfl (lv_at hl 0 rfl) ?_
      refine lv_ldc hx hb hown (ht _ m_837) dX10_copy_15 ?_
      obtain ⟨r56, σ55, hcr56, h⟩ := g_bd h
      refine g_callV (As := [.int (-100001)]) (n := 1) hx hb hml hown ht (c_X10_finding l G _ _ hcr56) m_838 m_840 m_14 m_41 m_841 (by decide +kernel) (by decide) gE_101 rfl hE hP hS (fun _ h => h) (fun _ _ h => h) rfl hl.1 rfl (Nat.le_of_ble_eq_true rfl) dX10_copy_17 ⟨by decide, by decide⟩ ⟨Nat.zero_le _, Nat.zero_le _⟩ (fun H locs hP hS => ?_)
      exact g_iret hx hb hr hlk hE hP hS h dX10_copy_20

def L6_X10_read (a1 : Int32) : Nat → Int32 → Int32 → gSt → (Int32 → Int32 → gSt → gO) → gO
  | 0, _, _, _, _ => none
  | nL6 + 1, l6_3, l6_2, σL6, kL6 =>
    gIx 4 a1 (if (σL6 105 a1.toNatClampNeg) ≤ l6_3 then (kL6 l6_3 l6_2 σL6) else (gIx 240 (((60 : Int32) * a1) + l6_3) (gNm ((σL6 106 (((60 : Int32) * a1) + l6_3).toNatClampNeg) : Int32) (fun x10 => gBd (M_X10_within x10 1 99 σL6) (fun r12 σ11 => if r12 = 0 then (gIx 549 ((489 : Int32) + l6_3) (gNm (gUp σ11 102 ((489 : Int32) + l6_3).toNatClampNeg 0) (fun σ15 => gBd (M_X10_within x10 1 99 σ15) (fun r17 σ16 => if r17 = 0 then (gNm ((l6_2 + 0) : Int32) (fun x19 => gNm (l6_3 + 1 : Int32) (fun x20 => L6_X10_read a1 nL6 x20 x19 σ16 kL6))) else (gNm ((l6_2 + 1) : Int32) (fun x21 => gNm (l6_3 + 1 : Int32) (fun x22 => L6_X10_read a1 nL6 x22 x21 σ16 kL6))))))) else (gIx 549 ((489 : Int32) + l6_3) (gNm (gUp σ11 102 ((489 : Int32) + l6_3).toNatClampNeg x10) (fun σ24 => gBd (M_X10_within x10 1 99 σ24) (fun r26 σ25 => if r26 = 0 then (gNm ((l6_2 + 0) : Int32) (fun x28 => gNm (l6_3 + 1 : Int32) (fun x29 => L6_X10_read a1 nL6 x29 x28 σ25 kL6))) else (gNm ((l6_2 + 1) : Int32) (fun x30 => gNm (l6_3 + 1 : Int32) (fun x31 => L6_X10_read a1 nL6 x31 x30 σ25 kL6))))))))))))
def M_X10_read (a1 : Int32) (σ : gSt) : gO :=
  gBd (M_X10_isSheet a1 σ) (fun r2 σ1 => if r2 = 0 then (gBd (M_X10_finding (-100001) σ1) (fun r38 σ37 => some (r38, σ37))) else (gIx 4 a1 (if (σ1 104 a1.toNatClampNeg) = 0 then (gBd (M_X10_finding (-100002) σ1) (fun r36 σ35 => some (r36, σ35))) else (L6_X10_read a1 gFu 0 0 σ1 (fun z32 z33 σ34 => some (z33, σ34))))))
set_option maxHeartbeats 4000000 in
set_option maxRecDepth 100000 in
theorem c_X10_read (l : Launch) (G : gPar) (a1 : Int32) (σ : gSt) {r : Int32} {σ' : gSt} (h : M_X10_read a1 σ = some (r, σ')) : gC l G yX10_read cX10_read 5 (some .int) 2 42 [.ref (G.2.2.1 101), .int a1] σ r σ' := by
  refine gC_of (by decide) (Nat.le_of_ble_eq_true rfl) ?_
  intro p e s m below meth c hx hb hr ht hown hlk hml hE hP ls hl
  have hS : va_S (gA G) s.heap s.heap [] := va_S.rf
  have hl : lv_has ls 5 [(0, .ref (G.2.2.1 101)), (1, .int a1)] := hl
  unfold M_X10_read at h
  refine lv_iload_n hx hb dX10_read_0 rfl (lv_at hl 1 rfl) ?_
  obtain ⟨r2, σ1, hcr2, h⟩ := g_bd h
  refine g_callS (As := [.int a1]) (n := 1) hx hb hml hown ht (c_X10_isSheet l G _ _ hcr2) m_1027 m_1028 m_41 m_1029 (by decide +kernel) hE hP hS (fun _ h => h) (fun _ _ h => h) rfl hl.1 rfl (Nat.le_of_ble_eq_true rfl) dX10_read_1 ⟨by decide, by decide⟩ ⟨Nat.zero_le _, Nat.zero_le _⟩ (fun H locs hP hS => ?_)
  refine lv_if_ne (tgt := 14) hx hb dX10_read_4 (by decide) (fun c3 => ?_) (fun c3 => ?_)
  · have h := g_iff c3 h
    refine lv_aload_n hx hb dX10_read_14 rfl (lv_at hl 0 rfl) ?_
    refine g_get hx hb ht hown hE hP (by decide) gE_101 uX10 rfl 4 (by decide) m_794 rfl rfl dX10_read_15 ?_
    refine lv_iload_n hx hb dX10_read_18 rfl (lv_at hl 1 rfl) ?_
    obtain ⟨i4, h⟩ := g_ix h
    refine g_iald hx hb hE hP (by decide) rfl (by decide) i4 dX10_read_19 ?_
    refine lv_if_ne (tgt := 30) hx hb dX10_read_20 (by decide) (fun c5 => ?_) (fun c5 => ?_)
    · have h := g_iff c5 h
      refine lv_iconst (v := 0) hx hb dX10_read_30 (by decide) ?_
      refine lv_istore_n (lv' := [(2, .int 0), (0, .ref (G.2.2.1 101)), (1, .int a1)]) hx hb dX10_read_31 rfl hl (by decide) rfl (fun ls hl => ?_)
      refine lv_iconst (v := 0) hx hb dX10_read_32 (by decide) ?_
      refine lv_istore_n (lv' := [(3, .int 0), (2, .int 0), (0, .ref (G.2.2.1 101)), (1, .int a1)]) hx hb dX10_read_33 rfl hl (by decide) rfl (fun ls hl => ?_)
      have LPL6 : ∀ (kL6 : Int32 → Int32 → gSt → gO), (∀ (l6_3 l6_2 : Int32) (σL6 : gSt) (H : Heap) (locs : List Loc) (ls : Array Slot), kL6 l6_3 l6_2 σL6 = some (r, σ') → gW G σL6 H → va_S (gA G) s.heap H locs → lv_has ls 5 [(3, .int l6_3), (2, .int l6_2), (0, .ref (G.2.2.1 101)), (1, .int a1)] → W p l e (gRm 2 42) s m ([.ref (G.2.2.1 101), .int a1].toArray) below meth c H locs 0 0 (MQ below (gQ G r σ') ([.ref (G.2.2.1 101), .int a1].toArray) s 0 0 (gA G)) (F0 m 109 ls [])) → ∀ (nL6 : Nat) (l6_3 l6_2 : Int32) (σL6 : gSt) (H : Heap) (locs : List Loc) (ls : Array Slot), L6_X10_read a1 nL6 l6_3 l6_2 σL6 kL6 = some (r, σ') → gW G σL6 H → va_S (gA G) s.heap H locs → lv_has ls 5 [(3, .int l6_3), (2, .int l6_2), (0, .ref (G.2.2.1 101)), (1, .int a1)] → W p l e (gRm 2 42) s m ([.ref (G.2.2.1 101), .int a1].toArray) below meth c H locs 0 0 (MQ below (gQ G r σ') ([.ref (G.2.2.1 101), .int a1].toArray) s 0 0 (gA G)) (F0 m 34 ls []) := by
        intro kL6 hKL6 nL6
        induction nL6 with
        | zero =>
          intro l6_3 l6_2 σL6 H locs ls h
          cases h
        | succ nL6 ihL6 =>
          intro l6_3 l6_2 σL6 H locs ls h hP hS hl
          rw [L6_X10_read] at h
          refine lv_iload_n hx hb dX10_read_34 rfl (lv_at hl 0 rfl) ?_
          refine lv_aload_n hx hb dX10_read_35 rfl (lv_at hl 2 rfl) ?_
          refine g_get hx hb ht hown hE hP (by decide) gE_101 uX10 rfl 5 (by decide) m_795 rfl rfl dX10_read_36 ?_
          refine lv_iload_n hx hb dX10_read_39 rfl (lv_at hl 3 rfl) ?_
          obtain ⟨i7, h⟩ := g_ix h
          refine g_iald hx hb hE hP (by decide) rfl (by decide) i7 dX10_read_40 ?_
          refine lv_icmp_ge (tgt := 109) hx hb dX10_read_41 (by decide) (fun c8 => ?_) (fun c8 => ?_)
          · have h := g_ift c8 h
            exact hKL6 _ _ _ _ _ _ h hP hS (lv_sub hl [0, 1, 2, 3] rfl)
          · have h := g_iff c8 h
            refine lv_aload_n hx hb dX10_read_44 rfl (lv_at hl 2 rfl) ?_
            refine g_get hx hb ht hown hE hP (by decide) gE_101 uX10 rfl 6 (by decide) m_796 rfl rfl dX10_read_45 ?_
            refine lv_bipush (v := 60) hx hb dX10_read_48 (by decide) ?_
            refine lv_iload_n hx hb dX10_read_50 rfl (lv_at hl 3 rfl) ?_
            refine lv_imul hx hb dX10_read_51 ?_
            refine lv_iload_n hx hb dX10_read_52 rfl (lv_at hl 0 rfl) ?_
            refine lv_iadd hx hb dX10_read_53 ?_
            obtain ⟨i9, h⟩ := g_ix h
            refine g_iald hx hb hE hP (by decide) rfl (by decide) i9 dX10_read_54 ?_
            refine lv_topi (fun x10 ex10 => ?_)
            have h := g_nm ex10 h
            refine lv_istore (lv' := [(4, .int x10), (3, .int l6_3), (2, .int l6_2), (0, .ref (G.2.2.1 101)), (1, .int a1)]) hx hb dX10_read_55 hl (by decide) rfl (fun ls hl => ?_)
            refine lv_aload_n hx hb dX10_read_57 rfl (lv_at hl 3 rfl) ?_
            refine g_get hx hb ht hown hE hP (by decide) gE_101 uX10 rfl 0 (by decide) m_790 rfl rfl dX10_read_58 ?_
            refine lv_sipush (v := 489) hx hb dX10_read_61 (by decide) ?_
            refine lv_iload_n hx hb dX10_read_64 rfl (lv_at hl 1 rfl) ?_
            refine lv_iadd hx hb dX10_read_65 ?_
            refine lv_iload hx hb dX10_read_66 (lv_at hl 0 rfl) ?_
            refine lv_iconst (v := 1) hx hb dX10_read_68 (by decide) ?_
            refine lv_bipush (v := 99) hx hb dX10_read_69 (by decide) ?_
            obtain ⟨r12, σ11, hcr12, h⟩ := g_bd h
            refine g_callS (As := [.int x10, .int 1, .int 99]) (n := 3) hx hb hml hown ht (c_X10_within l G _ _ _ _ hcr12) m_834 m_835 m_41 m_836 (by decide +kernel) hE hP hS (fun _ h => h) (fun _ _ h => h) rfl hl.1 rfl (Nat.le_of_ble_eq_true rfl) dX10_read_71 ⟨by decide, by decide⟩ ⟨Nat.zero_le _, Nat.zero_le _⟩ (fun H locs hP hS => ?_)
            refine lv_if_eq (tgt := 82) hx hb dX10_read_74 (by decide) (fun c13 => ?_) (fun c13 => ?_)
            · have h := g_ift c13 h
              refine lv_iconst (v := 0) hx hb dX10_read_82 (by decide) ?_
              obtain ⟨i14, h⟩ := g_ix h
              refine g_iast hx hb hE hP hS (by decide) rfl (by decide) i14 dX10_read_83 (fun H locs σ15 eσ15 hP hS => ?_)
              have h := g_nm eσ15 h
              refine lv_iload_n hx hb dX10_read_84 rfl (lv_at hl 2 rfl) ?_
              refine lv_iload hx hb dX10_read_85 (lv_at hl 0 rfl) ?_
              refine lv_iconst (v := 1) hx hb dX10_read_87 (by decide) ?_
              refine lv_bipush (v := 99) hx hb dX10_read_88 (by decide) ?_
              obtain ⟨r17, σ16, hcr17, h⟩ := g_bd h
              refine g_callS (As := [.int x10, .int 1, .int 99]) (n := 3) hx hb hml hown ht (c_X10_within l G _ _ _ _ hcr17) m_834 m_835 m_41 m_836 (by decide +kernel) hE hP hS (fun _ h => h) (fun _ _ h => h) rfl hl.1 rfl (Nat.le_of_ble_eq_true rfl) dX10_read_90 ⟨by decide, by decide⟩ ⟨Nat.zero_le _, Nat.zero_le _⟩ (fun H locs hP hS => ?_)
              refine lv_if_eq (tgt := 100) hx hb dX10_read_93 (by decide) (fun c18 => ?_) (fun c18 => ?_)
              · have h := g_ift c18 h
                refine lv_iconst (v := 0) hx hb dX10_read_100 (by decide) ?_
                refine lv_iadd hx hb dX10_read_101 ?_
                refine lv_topi (fun x19 ex19 => ?_)
                have h := g_nm ex19 h
                refine lv_istore_n (lv' := [(2, .int x19), (4, .int x10), (3, .int l6_3), (0, .ref (G.2.2.1 101)), (1, .int a1)]) hx hb dX10_read_102 rfl hl (by decide) rfl (fun ls hl => ?_)
                obtain ⟨x20, ex20⟩ : ∃ y : Int32, y = l6_3 + 1 := ⟨_, rfl⟩
                have h := g_nm ex20 h
                refine lv_iinc (v := x20) (lv' := [(3, .int x20), (2, .int x19), (4, .int x10), (0, .ref (G.2.2.1 101)), (1, .int a1)]) hx hb dX10_read_103 hl (k := 2) rfl (by rw [ex20]; rfl) (by decide) rfl (fun ls hl => ?_)
                refine lv_goto (tgt := 34) hx hb dX10_read_106 (by decide) ?_
                exact ihL6 _ _ _ _ _ _ h hP hS (lv_sub hl [0, 1, 3, 4] rfl)
              · have h := g_iff c18 h
                refine lv_iconst (v := 1) hx hb dX10_read_96 (by decide) ?_
                refine lv_goto (tgt := 101) hx hb dX10_read_97 (by decide) ?_
                refine lv_iadd hx hb dX10_read_101 ?_
                refine lv_topi (fun x21 ex21 => ?_)
                have h := g_nm ex21 h
                refine lv_istore_n (lv' := [(2, .int x21), (4, .int x10), (3, .int l6_3), (0, .ref (G.2.2.1 101)), (1, .int a1)]) hx hb dX10_read_102 rfl hl (by decide) rfl (fun ls hl => ?_)
                obtain ⟨x22, ex22⟩ : ∃ y : Int32, y = l6_3 + 1 := ⟨_, rfl⟩
                have h := g_nm ex22 h
                refine lv_iinc (v := x22) (lv' := [(3, .int x22), (2, .int x21), (4, .int x10), (0, .ref (G.2.2.1 101)), (1, .int a1)]) hx hb dX10_read_103 hl (k := 2) rfl (by rw [ex22]; rfl) (by decide) rfl (fun ls hl => ?_)
                refine lv_goto (tgt := 34) hx hb dX10_read_106 (by decide) ?_
                exact ihL6 _ _ _ _ _ _ h hP hS (lv_sub hl [0, 1, 3, 4] rfl)
            · have h := g_iff c13 h
              refine lv_iload hx hb dX10_read_77 (lv_at hl 0 rfl) ?_
              refine lv_goto (tgt := 83) hx hb dX10_read_79 (by decide) ?_
              obtain ⟨i23, h⟩ := g_ix h
              refine g_iast hx hb hE hP hS (by decide) rfl (by decide) i23 dX10_read_83 (fun H locs σ24 eσ24 hP hS => ?_)
              have h := g_nm eσ24 h
              refine lv_iload_n hx hb dX10_read_84 rfl (lv_at hl 2 rfl) ?_
              refine lv_iload hx hb dX10_read_85 (lv_at hl 0 rfl) ?_
              refine lv_iconst (v := 1) hx hb dX10_read_87 (by decide) ?_
              refine lv_bipush (v := 99) hx hb dX10_read_88 (by decide) ?_
              obtain ⟨r26, σ25, hcr26, h⟩ := g_bd h
              refine g_callS (As := [.int x10, .int 1, .int 99]) (n := 3) hx hb hml hown ht (c_X10_within l G _ _ _ _ hcr26) m_834 m_835 m_41 m_836 (by decide +kernel) hE hP hS (fun _ h => h) (fun _ _ h => h) rfl hl.1 rfl (Nat.le_of_ble_eq_true rfl) dX10_read_90 ⟨by decide, by decide⟩ ⟨Nat.zero_le _, Nat.zero_le _⟩ (fun H locs hP hS => ?_)
              refine lv_if_eq (tgt := 100) hx hb dX10_read_93 (by decide) (fun c27 => ?_) (fun c27 => ?_)
              · have h := g_ift c27 h
                refine lv_iconst (v := 0) hx hb dX10_read_100 (by decide) ?_
                refine lv_iadd hx hb dX10_read_101 ?_
                refine lv_topi (fun x28 ex28 => ?_)
                have h := g_nm ex28 h
                refine lv_istore_n (lv' := [(2, .int x28), (4, .int x10), (3, .int l6_3), (0, .ref (G.2.2.1 101)), (1, .int a1)]) hx hb dX10_read_102 rfl hl (by decide) rfl (fun ls hl => ?_)
                obtain ⟨x29, ex29⟩ : ∃ y : Int32, y = l6_3 + 1 := ⟨_, rfl⟩
                have h := g_nm ex29 h
                refine lv_iinc (v := x29) (lv' := [(3, .int x29), (2, .int x28), (4, .int x10), (0, .ref (G.2.2.1 101)), (1, .int a1)]) hx hb dX10_read_103 hl (k := 2) rfl (by rw [ex29]; rfl) (by decide) rfl (fun ls hl => ?_)
                refine lv_goto (tgt := 34) hx hb dX10_read_106 (by decide) ?_
                exact ihL6 _ _ _ _ _ _ h hP hS (lv_sub hl [0, 1, 3, 4] rfl)
              · have h := g_iff c27 h
                refine lv_iconst (v := 1) hx hb dX10_read_96 (by decide) ?_
                refine lv_goto (tgt := 101) hx hb dX10_read_97 (by decide) ?_
                refine lv_iadd hx hb dX10_read_101 ?_
                refine lv_topi (fun x30 ex30 => ?_)
                have h := g_nm ex30 h
                refine lv_istore_n (lv' := [(2, .int x30), (4, .int x10), (3, .int l6_3), (0, .ref (G.2.2.1 101)), (1, .int a1)]) hx hb dX10_read_102 rfl hl (by decide) rfl (fun ls hl => ?_)
                obtain ⟨x31, ex31⟩ : ∃ y : Int32, y = l6_3 + 1 := ⟨_, rfl⟩
                have h := g_nm ex31 h
                refine lv_iinc (v := x31) (lv' := [(3, .int x31), (2, .int x30), (4, .int x10), (0, .ref (G.2.2.1 101)), (1, .int a1)]) hx hb dX10_read_103 hl (k := 2) rfl (by rw [ex31]; rfl) (by decide) rfl (fun ls hl => ?_)
                refine lv_goto (tgt := 34) hx hb dX10_read_106 (by decide) ?_
                exact ihL6 _ _ _ _ _ _ h hP hS (lv_sub hl [0, 1, 3, 4] rfl)
      refine LPL6 _ (fun z32 z33 σ34 H locs ls h hP hS hl => ?_) gFu _ _ _ _ _ _ h hP hS (lv_sub hl [0, 1, 2, 3] rfl)
      refine lv_iload_n hx hb dX10_read_109 rfl (lv_at hl 1 rfl) ?_
      exact g_iret hx hb hr hlk hE hP hS h dX10_read_110
    · have h := g_ift c5 h
      refine lv_aload_n hx hb dX10_read_23 rfl (lv_at hl 0 rfl) ?_
      refine lv_ldc hx hb hown (ht _ m_1006) dX10_read_24 ?_
      obtain ⟨r36, σ35, hcr36, h⟩ := g_bd h
      refine g_callV (As := [.int (-100002)]) (n := 1) hx hb hml hown ht (c_X10_finding l G _ _ hcr36) m_838 m_840 m_14 m_41 m_841 (by decide +kernel) (by decide) gE_101 rfl hE hP hS (fun _ h => h) (fun _ _ h => h) rfl hl.1 rfl (Nat.le_of_ble_eq_true rfl) dX10_read_26 ⟨by decide, by decide⟩ ⟨Nat.zero_le _, Nat.zero_le _⟩ (fun H locs hP hS => ?_)
      exact g_iret hx hb hr hlk hE hP hS h dX10_read_29
  · have h := g_ift c3 h
    refine lv_aload_n hx hb dX10_read_7 rfl (lv_at hl 0 rfl) ?_
    refine lv_ldc hx hb hown (ht _ m_837) dX10_read_8 ?_
    obtain ⟨r38, σ37, hcr38, h⟩ := g_bd h
    refine g_callV (As := [.int (-100001)]) (n := 1) hx hb hml hown ht (c_X10_finding l G _ _ hcr38) m_838 m_840 m_14 m_41 m_841 (by decide +kernel) (by decide) gE_101 rfl hE hP hS (fun _ h => h) (fun _ _ h => h) rfl hl.1 rfl (Nat.le_of_ble_eq_true rfl) dX10_read_10 ⟨by decide, by decide⟩ ⟨Nat.zero_le _, Nat.zero_le _⟩ (fun H locs hP hS => ?_)
    exact g_iret hx hb hr hlk hE hP hS h dX10_read_13

def L1_X10_keep : Nat → Int32 → gSt → (Int32 → gSt → gO) → gO
  | 0, _, _, _ => none
  | nL1 + 1, l1_1, σL1, kL1 =>
    if 549 ≤ l1_1 then (kL1 l1_1 σL1) else (gIx 549 l1_1 (gIx 549 l1_1 (gNm (gUp σL1 103 l1_1.toNatClampNeg (σL1 102 l1_1.toNatClampNeg)) (fun σ5 => gNm (l1_1 + 1 : Int32) (fun x6 => L1_X10_keep nL1 x6 σ5 kL1)))))
def M_X10_keep (σ : gSt) : gO :=
  L1_X10_keep gFu 0 σ (fun z7 σ8 => gNm (gUp σ8 101 2 1) (fun σ9 => gIx 549 1 (some ((σ9 102 (1 : Int32).toNatClampNeg), σ9))))
set_option maxHeartbeats 4000000 in
set_option maxRecDepth 100000 in
theorem c_X10_keep (l : Launch) (G : gPar) (σ : gSt) {r : Int32} {σ' : gSt} (h : M_X10_keep σ = some (r, σ')) : gC l G yX10_keep cX10_keep 2 (some .int) 0 0 [.ref (G.2.2.1 101)] σ r σ' := by
  refine gC_of (by decide) (Nat.le_of_ble_eq_true rfl) ?_
  intro p e s m below meth c hx hb hr ht hown hlk hml hE hP ls hl
  have hS : va_S (gA G) s.heap s.heap [] := va_S.rf
  have hl : lv_has ls 2 [(0, .ref (G.2.2.1 101))] := hl
  unfold M_X10_keep at h
  refine lv_iconst (v := 0) hx hb dX10_keep_0 (by decide) ?_
  refine lv_istore_n (lv' := [(1, .int 0), (0, .ref (G.2.2.1 101))]) hx hb dX10_keep_1 rfl hl (by decide) rfl (fun ls hl => ?_)
  have LPL1 : ∀ (kL1 : Int32 → gSt → gO), (∀ (l1_1 : Int32) (σL1 : gSt) (H : Heap) (locs : List Loc) (ls : Array Slot), kL1 l1_1 σL1 = some (r, σ') → gW G σL1 H → va_S (gA G) s.heap H locs → lv_has ls 2 [(1, .int l1_1), (0, .ref (G.2.2.1 101))] → W p l e (gRm 0 0) s m ([.ref (G.2.2.1 101)].toArray) below meth c H locs 0 0 (MQ below (gQ G r σ') ([.ref (G.2.2.1 101)].toArray) s 0 0 (gA G)) (F0 m 27 ls [])) → ∀ (nL1 : Nat) (l1_1 : Int32) (σL1 : gSt) (H : Heap) (locs : List Loc) (ls : Array Slot), L1_X10_keep nL1 l1_1 σL1 kL1 = some (r, σ') → gW G σL1 H → va_S (gA G) s.heap H locs → lv_has ls 2 [(1, .int l1_1), (0, .ref (G.2.2.1 101))] → W p l e (gRm 0 0) s m ([.ref (G.2.2.1 101)].toArray) below meth c H locs 0 0 (MQ below (gQ G r σ') ([.ref (G.2.2.1 101)].toArray) s 0 0 (gA G)) (F0 m 2 ls []) := by
    intro kL1 hKL1 nL1
    induction nL1 with
    | zero =>
      intro l1_1 σL1 H locs ls h
      cases h
    | succ nL1 ihL1 =>
      intro l1_1 σL1 H locs ls h hP hS hl
      rw [L1_X10_keep] at h
      refine lv_iload_n hx hb dX10_keep_2 rfl (lv_at hl 0 rfl) ?_
      refine lv_sipush (v := 549) hx hb dX10_keep_3 (by decide) ?_
      refine lv_icmp_ge (tgt := 27) hx hb dX10_keep_6 (by decide) (fun c2 => ?_) (fun c2 => ?_)
      · have h := g_ift c2 h
        exact hKL1 _ _ _ _ _ h hP hS (lv_sub hl [0, 1] rfl)
      · have h := g_iff c2 h
        refine lv_aload_n hx hb dX10_keep_9 rfl (lv_at hl 1 rfl) ?_
        refine g_get hx hb ht hown hE hP (by decide) gE_101 uX10 rfl 1 (by decide) m_791 rfl rfl dX10_keep_10 ?_
        refine lv_iload_n hx hb dX10_keep_13 rfl (lv_at hl 0 rfl) ?_
        refine lv_aload_n hx hb dX10_keep_14 rfl (lv_at hl 1 rfl) ?_
        refine g_get hx hb ht hown hE hP (by decide) gE_101 uX10 rfl 0 (by decide) m_790 rfl rfl dX10_keep_15 ?_
        refine lv_iload_n hx hb dX10_keep_18 rfl (lv_at hl 0 rfl) ?_
        obtain ⟨i3, h⟩ := g_ix h
        refine g_iald hx hb hE hP (by decide) rfl (by decide) i3 dX10_keep_19 ?_
        obtain ⟨i4, h⟩ := g_ix h
        refine g_iast hx hb hE hP hS (by decide) rfl (by decide) i4 dX10_keep_20 (fun H locs σ5 eσ5 hP hS => ?_)
        have h := g_nm eσ5 h
        obtain ⟨x6, ex6⟩ : ∃ y : Int32, y = l1_1 + 1 := ⟨_, rfl⟩
        have h := g_nm ex6 h
        refine lv_iinc (v := x6) (lv' := [(1, .int x6), (0, .ref (G.2.2.1 101))]) hx hb dX10_keep_21 hl (k := 0) rfl (by rw [ex6]; rfl) (by decide) rfl (fun ls hl => ?_)
        refine lv_goto (tgt := 2) hx hb dX10_keep_24 (by decide) ?_
        exact ihL1 _ _ _ _ _ h hP hS (lv_sub hl [0, 1] rfl)
  refine LPL1 _ (fun z7 σ8 H locs ls h hP hS hl => ?_) gFu _ _ _ _ _ h hP hS (lv_sub hl [0, 1] rfl)
  refine lv_aload_n hx hb dX10_keep_27 rfl (lv_at hl 1 rfl) ?_
  refine lv_iconst (v := 1) hx hb dX10_keep_28 (by decide) ?_
  refine g_put hx hb ht hown hE hP hS (by decide) gE_101 uX10 tyX10_ok nmX10 rfl 2 (by decide) m_792 rfl rfl rfl rfl rfl (Nat.le_of_ble_eq_true rfl) rfl dX10_keep_29 (fun H locs σ9 eσ9 hP hS => ?_)
  have h := g_nm eσ9 h
  refine lv_aload_n hx hb dX10_keep_32 rfl (lv_at hl 1 rfl) ?_
  refine g_get hx hb ht hown hE hP (by decide) gE_101 uX10 rfl 0 (by decide) m_790 rfl rfl dX10_keep_33 ?_
  refine lv_iconst (v := 1) hx hb dX10_keep_36 (by decide) ?_
  obtain ⟨i10, h⟩ := g_ix h
  refine g_iald hx hb hE hP (by decide) rfl (by decide) i10 dX10_keep_37 ?_
  exact g_iret hx hb hr hlk hE hP hS h dX10_keep_38

def L2_X10_back : Nat → Int32 → gSt → (Int32 → gSt → gO) → gO
  | 0, _, _, _ => none
  | nL2 + 1, l2_1, σL2, kL2 =>
    if 549 ≤ l2_1 then (kL2 l2_1 σL2) else (gIx 549 l2_1 (gIx 549 l2_1 (gNm (gUp σL2 102 l2_1.toNatClampNeg (σL2 103 l2_1.toNatClampNeg)) (fun σ6 => gNm (l2_1 + 1 : Int32) (fun x7 => L2_X10_back nL2 x7 σ6 kL2)))))
def M_X10_back (σ : gSt) : gO :=
  if (σ 101 2) = 0 then (gBd (M_X10_finding (-100006) σ) (fun r12 σ11 => some (r12, σ11))) else (L2_X10_back gFu 0 σ (fun z8 σ9 => gIx 549 1 (some ((σ9 102 (1 : Int32).toNatClampNeg), σ9))))
set_option maxHeartbeats 4000000 in
set_option maxRecDepth 100000 in
theorem c_X10_back (l : Launch) (G : gPar) (σ : gSt) {r : Int32} {σ' : gSt} (h : M_X10_back σ = some (r, σ')) : gC l G yX10_back cX10_back 2 (some .int) 1 21 [.ref (G.2.2.1 101)] σ r σ' := by
  refine gC_of (by decide) (Nat.le_of_ble_eq_true rfl) ?_
  intro p e s m below meth c hx hb hr ht hown hlk hml hE hP ls hl
  have hS : va_S (gA G) s.heap s.heap [] := va_S.rf
  have hl : lv_has ls 2 [(0, .ref (G.2.2.1 101))] := hl
  unfold M_X10_back at h
  refine lv_aload_n hx hb dX10_back_0 rfl (lv_at hl 0 rfl) ?_
  refine g_get hx hb ht hown hE hP (by decide) gE_101 uX10 rfl 2 (by decide) m_792 rfl rfl dX10_back_1 ?_
  refine lv_if_ne (tgt := 14) hx hb dX10_back_4 (by decide) (fun c1 => ?_) (fun c1 => ?_)
  · have h := g_iff c1 h
    refine lv_iconst (v := 0) hx hb dX10_back_14 (by decide) ?_
    refine lv_istore_n (lv' := [(1, .int 0), (0, .ref (G.2.2.1 101))]) hx hb dX10_back_15 rfl hl (by decide) rfl (fun ls hl => ?_)
    have LPL2 : ∀ (kL2 : Int32 → gSt → gO), (∀ (l2_1 : Int32) (σL2 : gSt) (H : Heap) (locs : List Loc) (ls : Array Slot), kL2 l2_1 σL2 = some (r, σ') → gW G σL2 H → va_S (gA G) s.heap H locs → lv_has ls 2 [(1, .int l2_1), (0, .ref (G.2.2.1 101))] → W p l e (gRm 1 21) s m ([.ref (G.2.2.1 101)].toArray) below meth c H locs 0 0 (MQ below (gQ G r σ') ([.ref (G.2.2.1 101)].toArray) s 0 0 (gA G)) (F0 m 41 ls [])) → ∀ (nL2 : Nat) (l2_1 : Int32) (σL2 : gSt) (H : Heap) (locs : List Loc) (ls : Array Slot), L2_X10_back nL2 l2_1 σL2 kL2 = some (r, σ') → gW G σL2 H → va_S (gA G) s.heap H locs → lv_has ls 2 [(1, .int l2_1), (0, .ref (G.2.2.1 101))] → W p l e (gRm 1 21) s m ([.ref (G.2.2.1 101)].toArray) below meth c H locs 0 0 (MQ below (gQ G r σ') ([.ref (G.2.2.1 101)].toArray) s 0 0 (gA G)) (F0 m 16 ls []) := by
      intro kL2 hKL2 nL2
      induction nL2 with
      | zero =>
        intro l2_1 σL2 H locs ls h
        cases h
      | succ nL2 ihL2 =>
        intro l2_1 σL2 H locs ls h hP hS hl
        rw [L2_X10_back] at h
        refine lv_iload_n hx hb dX10_back_16 rfl (lv_at hl 0 rfl) ?_
        refine lv_sipush (v := 549) hx hb dX10_back_17 (by decide) ?_
        refine lv_icmp_ge (tgt := 41) hx hb dX10_back_20 (by decide) (fun c3 => ?_) (fun c3 => ?_)
        · have h := g_ift c3 h
          exact hKL2 _ _ _ _ _ h hP hS (lv_sub hl [0, 1] rfl)
        · have h := g_iff c3 h
          refine lv_aload_n hx hb dX10_back_23 rfl (lv_at hl 1 rfl) ?_
          refine g_get hx hb ht hown hE hP (by decide) gE_101 uX10 rfl 0 (by decide) m_790 rfl rfl dX10_back_24 ?_
          refine lv_iload_n hx hb dX10_back_27 rfl (lv_at hl 0 rfl) ?_
          refine lv_aload_n hx hb dX10_back_28 rfl (lv_at hl 1 rfl) ?_
          refine g_get hx hb ht hown hE hP (by decide) gE_101 uX10 rfl 1 (by decide) m_791 rfl rfl dX10_back_29 ?_
          refine lv_iload_n hx hb dX10_back_32 rfl (lv_at hl 0 rfl) ?_
          obtain ⟨i4, h⟩ := g_ix h
          refine g_iald hx hb hE hP (by decide) rfl (by decide) i4 dX10_back_33 ?_
          obtain ⟨i5, h⟩ := g_ix h
          refine g_iast hx hb hE hP hS (by decide) rfl (by decide) i5 dX10_back_34 (fun H locs σ6 eσ6 hP hS => ?_)
          have h := g_nm eσ6 h
          obtain ⟨x7, ex7⟩ : ∃ y : Int32, y = l2_1 + 1 := ⟨_, rfl⟩
          have h := g_nm ex7 h
          refine lv_iinc (v := x7) (lv' := [(1, .int x7), (0, .ref (G.2.2.1 101))]) hx hb dX10_back_35 hl (k := 0) rfl (by rw [ex7]; rfl) (by decide) rfl (fun ls hl => ?_)
          refine lv_goto (tgt := 16) hx hb dX10_back_38 (by decide) ?_
          exact ihL2 _ _ _ _ _ h hP hS (lv_sub hl [0, 1] rfl)
    refine LPL2 _ (fun z8 σ9 H locs ls h hP hS hl => ?_) gFu _ _ _ _ _ h hP hS (lv_sub hl [0, 1] rfl)
    refine lv_aload_n hx hb dX10_back_41 rfl (lv_at hl 1 rfl) ?_
    refine g_get hx hb ht hown hE hP (by decide) gE_101 uX10 rfl 0 (by decide) m_790 rfl rfl dX10_back_42 ?_
    refine lv_iconst (v := 1) hx hb dX10_back_45 (by decide) ?_
    obtain ⟨i10, h⟩ := g_ix h
    refine g_iald hx hb hE hP (by decide) rfl (by decide) i10 dX10_back_46 ?_
    exact g_iret hx hb hr hlk hE hP hS h dX10_back_47
  · have h := g_ift c1 h
    refine lv_aload_n hx hb dX10_back_7 rfl (lv_at hl 0 rfl) ?_
    refine lv_ldc hx hb hown (ht _ m_897) dX10_back_8 ?_
    obtain ⟨r12, σ11, hcr12, h⟩ := g_bd h
    refine g_callV (As := [.int (-100006)]) (n := 1) hx hb hml hown ht (c_X10_finding l G _ _ hcr12) m_838 m_840 m_14 m_41 m_841 (by decide +kernel) (by decide) gE_101 rfl hE hP hS (fun _ h => h) (fun _ _ h => h) rfl hl.1 rfl (Nat.le_of_ble_eq_true rfl) dX10_back_10 ⟨by decide, by decide⟩ ⟨Nat.zero_le _, Nat.zero_le _⟩ (fun H locs hP hS => ?_)
    exact g_iret hx hb hr hlk hE hP hS h dX10_back_13

def M_X10_told (a1 : Int32) (σ : gSt) : gO :=
  gBd (M_X10_within a1 0 6 σ) (fun r2 σ1 => if r2 = 0 then (gBd (M_X10_finding (-100001) σ1) (fun r10 σ9 => some (r10, σ9))) else (if 5 ≤ a1 then (if a1 = 5 then (some ((σ1 101 3), σ1)) else (gBd (M_X10_doubts σ1) (fun r7 σ6 => some (r7, σ6)))) else (gIx 549 a1 (some ((σ1 102 a1.toNatClampNeg), σ1)))))
set_option maxHeartbeats 4000000 in
set_option maxRecDepth 100000 in
theorem c_X10_told (l : Launch) (G : gPar) (a1 : Int32) (σ : gSt) {r : Int32} {σ' : gSt} (h : M_X10_told a1 σ = some (r, σ')) : gC l G yX10_told cX10_told 2 (some .int) 1 22 [.ref (G.2.2.1 101), .int a1] σ r σ' := by
  refine gC_of (by decide) (Nat.le_of_ble_eq_true rfl) ?_
  intro p e s m below meth c hx hb hr ht hown hlk hml hE hP ls hl
  have hS : va_S (gA G) s.heap s.heap [] := va_S.rf
  have hl : lv_has ls 2 [(0, .ref (G.2.2.1 101)), (1, .int a1)] := hl
  unfold M_X10_told at h
  refine lv_iload_n hx hb dX10_told_0 rfl (lv_at hl 1 rfl) ?_
  refine lv_iconst (v := 0) hx hb dX10_told_1 (by decide) ?_
  refine lv_bipush (v := 6) hx hb dX10_told_2 (by decide) ?_
  obtain ⟨r2, σ1, hcr2, h⟩ := g_bd h
  refine g_callS (As := [.int a1, .int 0, .int 6]) (n := 3) hx hb hml hown ht (c_X10_within l G _ _ _ _ hcr2) m_834 m_835 m_41 m_836 (by decide +kernel) hE hP hS (fun _ h => h) (fun _ _ h => h) rfl hl.1 rfl (Nat.le_of_ble_eq_true rfl) dX10_told_4 ⟨by decide, by decide⟩ ⟨Nat.zero_le _, Nat.zero_le _⟩ (fun H locs hP hS => ?_)
  refine lv_if_ne (tgt := 17) hx hb dX10_told_7 (by decide) (fun c3 => ?_) (fun c3 => ?_)
  · have h := g_iff c3 h
    refine lv_iload_n hx hb dX10_told_17 rfl (lv_at hl 1 rfl) ?_
    refine lv_iconst (v := 5) hx hb dX10_told_18 (by decide) ?_
    refine lv_icmp_ge (tgt := 31) hx hb dX10_told_19 (by decide) (fun c4 => ?_) (fun c4 => ?_)
    · have h := g_ift c4 h
      refine lv_iload_n hx hb dX10_told_31 rfl (lv_at hl 1 rfl) ?_
      refine lv_iconst (v := 5) hx hb dX10_told_32 (by decide) ?_
      refine lv_icmp_ne (tgt := 43) hx hb dX10_told_33 (by decide) (fun c5 => ?_) (fun c5 => ?_)
      · have h := g_iff c5 h
        refine lv_aload_n hx hb dX10_told_43 rfl (lv_at hl 0 rfl) ?_
        obtain ⟨r7, σ6, hcr7, h⟩ := g_bd h
        refine g_callV (As := []) (n := 0) hx hb hml hown ht (c_X10_doubts l G _ hcr7) m_889 m_891 m_18 m_41 m_892 (by decide +kernel) (by decide) gE_101 rfl hE hP hS (fun _ h => h) (fun _ _ h => h) rfl hl.1 rfl (Nat.le_of_ble_eq_true rfl) dX10_told_44 ⟨by decide, by decide⟩ ⟨Nat.zero_le _, Nat.zero_le _⟩ (fun H locs hP hS => ?_)
        exact g_iret hx hb hr hlk hE hP hS h dX10_told_47
      · have h := g_ift c5 h
        refine lv_aload_n hx hb dX10_told_36 rfl (lv_at hl 0 rfl) ?_
        refine g_get hx hb ht hown hE hP (by decide) gE_101 uX10 rfl 3 (by decide) m_793 rfl rfl dX10_told_37 ?_
        refine lv_goto (tgt := 47) hx hb dX10_told_40 (by decide) ?_
        exact g_iret hx hb hr hlk hE hP hS h dX10_told_47
    · have h := g_iff c4 h
      refine lv_aload_n hx hb dX10_told_22 rfl (lv_at hl 0 rfl) ?_
      refine g_get hx hb ht hown hE hP (by decide) gE_101 uX10 rfl 0 (by decide) m_790 rfl rfl dX10_told_23 ?_
      refine lv_iload_n hx hb dX10_told_26 rfl (lv_at hl 1 rfl) ?_
      obtain ⟨i8, h⟩ := g_ix h
      refine g_iald hx hb hE hP (by decide) rfl (by decide) i8 dX10_told_27 ?_
      refine lv_goto (tgt := 47) hx hb dX10_told_28 (by decide) ?_
      exact g_iret hx hb hr hlk hE hP hS h dX10_told_47
  · have h := g_ift c3 h
    refine lv_aload_n hx hb dX10_told_10 rfl (lv_at hl 0 rfl) ?_
    refine lv_ldc hx hb hown (ht _ m_837) dX10_told_11 ?_
    obtain ⟨r10, σ9, hcr10, h⟩ := g_bd h
    refine g_callV (As := [.int (-100001)]) (n := 1) hx hb hml hown ht (c_X10_finding l G _ _ hcr10) m_838 m_840 m_14 m_41 m_841 (by decide +kernel) (by decide) gE_101 rfl hE hP hS (fun _ h => h) (fun _ _ h => h) rfl hl.1 rfl (Nat.le_of_ble_eq_true rfl) dX10_told_13 ⟨by decide, by decide⟩ ⟨Nat.zero_le _, Nat.zero_le _⟩ (fun H locs hP hS => ?_)
    exact g_iret hx hb hr hlk hE hP hS h dX10_told_16
