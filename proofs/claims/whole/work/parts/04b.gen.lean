def M_X6_enter (a1 : Int32) (σ : gSt) : gO :=
  gIx 10 a1 (gNm (gUp σ 39 a1.toNatClampNeg (-1)) (fun σ2 => gIx 10 a1 (gNm (gUp σ2 40 a1.toNatClampNeg 0) (fun σ4 => gIx 10 a1 (gNm (gUp σ4 41 a1.toNatClampNeg 0) (fun σ6 => some (0, σ6)))))))
set_option maxHeartbeats 4000000 in
set_option maxRecDepth 100000 in
theorem c_X6_enter (l : Launch) (G : gPar) (a1 : Int32) (σ : gSt) {r : Int32} {σ' : gSt} (h : M_X6_enter a1 σ = some (r, σ')) : gV l G yX6_enter cX6_enter 2 0 0 [.ref (G.2.2.1 38), .int a1] σ σ' := by
  refine gV_of (by decide) (Nat.le_of_ble_eq_true rfl) ?_
  intro p e s m below meth c hx hb hr ht hown hlk hml hE hP ls hl
  have hS : va_S (gA G) s.heap s.heap [] := va_S.rf
  have hl : lv_has ls 2 [(0, .ref (G.2.2.1 38)), (1, .int a1)] := hl
  unfold M_X6_enter at h
  refine lv_aload_n hx hb dX6_enter_0 rfl (lv_at hl 0 rfl) ?_
  refine g_get hx hb ht hown hE hP (by decide) gE_38 uX6 rfl 1 (by decide) m_227 rfl rfl dX6_enter_1 ?_
  refine lv_iload_n hx hb dX6_enter_4 rfl (lv_at hl 1 rfl) ?_
  refine lv_iconst (v := (-1)) hx hb dX6_enter_5 (by decide) ?_
  obtain ⟨i1, h⟩ := g_ix h
  refine g_iast hx hb hE hP hS (by decide) rfl (by decide) i1 dX6_enter_6 (fun H locs σ2 eσ2 hP hS => ?_)
  have h := g_nm eσ2 h
  refine lv_aload_n hx hb dX6_enter_7 rfl (lv_at hl 0 rfl) ?_
  refine g_get hx hb ht hown hE hP (by decide) gE_38 uX6 rfl 2 (by decide) m_229 rfl rfl dX6_enter_8 ?_
  refine lv_iload_n hx hb dX6_enter_11 rfl (lv_at hl 1 rfl) ?_
  refine lv_iconst (v := 0) hx hb dX6_enter_12 (by decide) ?_
  obtain ⟨i3, h⟩ := g_ix h
  refine g_iast hx hb hE hP hS (by decide) rfl (by decide) i3 dX6_enter_13 (fun H locs σ4 eσ4 hP hS => ?_)
  have h := g_nm eσ4 h
  refine lv_aload_n hx hb dX6_enter_14 rfl (lv_at hl 0 rfl) ?_
  refine g_get hx hb ht hown hE hP (by decide) gE_38 uX6 rfl 3 (by decide) m_231 rfl rfl dX6_enter_15 ?_
  refine lv_iload_n hx hb dX6_enter_18 rfl (lv_at hl 1 rfl) ?_
  refine lv_iconst (v := 0) hx hb dX6_enter_19 (by decide) ?_
  obtain ⟨i5, h⟩ := g_ix h
  refine g_iast hx hb hE hP hS (by decide) rfl (by decide) i5 dX6_enter_20 (fun H locs σ6 eσ6 hP hS => ?_)
  have h := g_nm eσ6 h
  exact g_vret (v := 0) (r := r) hx hb hr hlk hE hP hS h dX6_enter_21

def M_X6_listIn (a1 a2 : Int32) (σ : gSt) : gO :=
  gIx 10 a1 (if a2 < (σ 40 a1.toNatClampNeg) then (some ((-1), σ)) else (gIx 10 a1 (some ((σ 39 a1.toNatClampNeg), σ))))
set_option maxHeartbeats 4000000 in
set_option maxRecDepth 100000 in
theorem c_X6_listIn (l : Launch) (G : gPar) (a1 a2 : Int32) (σ : gSt) {r : Int32} {σ' : gSt} (h : M_X6_listIn a1 a2 σ = some (r, σ')) : gC l G yX6_listIn cX6_listIn 3 (some .int) 0 0 [.ref (G.2.2.1 38), .int a1, .int a2] σ r σ' := by
  refine gC_of (by decide) (Nat.le_of_ble_eq_true rfl) ?_
  intro p e s m below meth c hx hb hr ht hown hlk hml hE hP ls hl
  have hS : va_S (gA G) s.heap s.heap [] := va_S.rf
  have hl : lv_has ls 3 [(0, .ref (G.2.2.1 38)), (1, .int a1), (2, .int a2)] := hl
  unfold M_X6_listIn at h
  refine lv_aload_n hx hb dX6_listIn_0 rfl (lv_at hl 0 rfl) ?_
  refine g_get hx hb ht hown hE hP (by decide) gE_38 uX6 rfl 2 (by decide) m_229 rfl rfl dX6_listIn_1 ?_
  refine lv_iload_n hx hb dX6_listIn_4 rfl (lv_at hl 1 rfl) ?_
  obtain ⟨i1, h⟩ := g_ix h
  refine g_iald hx hb hE hP (by decide) rfl (by decide) i1 dX6_listIn_5 ?_
  refine lv_iload_n hx hb dX6_listIn_6 rfl (lv_at hl 2 rfl) ?_
  refine lv_icmp_gt (tgt := 19) hx hb dX6_listIn_7 (by decide) (fun c2 => ?_) (fun c2 => ?_)
  · have h := g_ift c2 h
    refine lv_iconst (v := (-1)) hx hb dX6_listIn_19 (by decide) ?_
    exact g_iret hx hb hr hlk hE hP hS h dX6_listIn_20
  · have h := g_iff c2 h
    refine lv_aload_n hx hb dX6_listIn_10 rfl (lv_at hl 0 rfl) ?_
    refine g_get hx hb ht hown hE hP (by decide) gE_38 uX6 rfl 1 (by decide) m_227 rfl rfl dX6_listIn_11 ?_
    refine lv_iload_n hx hb dX6_listIn_14 rfl (lv_at hl 1 rfl) ?_
    obtain ⟨i3, h⟩ := g_ix h
    refine g_iald hx hb hE hP (by decide) rfl (by decide) i3 dX6_listIn_15 ?_
    refine lv_goto (tgt := 20) hx hb dX6_listIn_16 (by decide) ?_
    exact g_iret hx hb hr hlk hE hP hS h dX6_listIn_20

def M_X6_isKeptByHusband (a1 a2 : Int32) (σ : gSt) : gO :=
  gIx 10 a1 (gNm ((σ 15 a1.toNatClampNeg) : Int32) (fun x2 => gBd (M_X5_has x2 σ) (fun r4 σ3 => if r4 = 0 then (some (0, σ3)) else (gBd (M_X5_isWifeOf a1 x2 σ3) (fun r7 σ6 => if r7 = 0 then (some (0, σ6)) else (gBd (M_X6_listIn x2 a2 σ6) (fun r10 σ9 => gBd (M_X6_listIn a1 a2 σ9) (fun r12 σ11 => if r10 = r12 then (some (1, σ11)) else (some (0, σ11))))))))))
set_option maxHeartbeats 4000000 in
set_option maxRecDepth 100000 in
theorem c_X6_isKeptByHusband (l : Launch) (G : gPar) (a1 a2 : Int32) (σ : gSt) {r : Int32} {σ' : gSt} (h : M_X6_isKeptByHusband a1 a2 σ = some (r, σ')) : gC l G yX6_isKeptByHusband cX6_isKeptByHusband 5 (some .boolean) 1 22 [.ref (G.2.2.1 38), .ref (G.2.2.1 11), .int a1, .int a2] σ r σ' := by
  refine gC_of (by decide) (Nat.le_of_ble_eq_true rfl) ?_
  intro p e s m below meth c hx hb hr ht hown hlk hml hE hP ls hl
  have hS : va_S (gA G) s.heap s.heap [] := va_S.rf
  have hl : lv_has ls 5 [(0, .ref (G.2.2.1 38)), (1, .ref (G.2.2.1 11)), (2, .int a1), (3, .int a2)] := hl
  unfold M_X6_isKeptByHusband at h
  refine lv_aload_n hx hb dX6_isKeptByHusband_0 rfl (lv_at hl 1 rfl) ?_
  refine g_get hx hb ht hown hE hP (by decide) gE_11 uX5 rfl 4 (by decide) m_98 rfl rfl dX6_isKeptByHusband_1 ?_
  refine lv_iload_n hx hb dX6_isKeptByHusband_4 rfl (lv_at hl 2 rfl) ?_
  obtain ⟨i1, h⟩ := g_ix h
  refine g_iald hx hb hE hP (by decide) rfl (by decide) i1 dX6_isKeptByHusband_5 ?_
  refine lv_topi (fun x2 ex2 => ?_)
  have h := g_nm ex2 h
  refine lv_istore (lv' := [(4, .int x2), (0, .ref (G.2.2.1 38)), (1, .ref (G.2.2.1 11)), (2, .int a1), (3, .int a2)]) hx hb dX6_isKeptByHusband_6 hl (by decide) rfl (fun ls hl => ?_)
  refine lv_aload_n hx hb dX6_isKeptByHusband_8 rfl (lv_at hl 2 rfl) ?_
  refine lv_iload hx hb dX6_isKeptByHusband_9 (lv_at hl 0 rfl) ?_
  obtain ⟨r4, σ3, hcr4, h⟩ := g_bd h
  refine g_callV (As := [.int x2]) (n := 1) hx hb hml hown ht (c_X5_has l G _ _ hcr4) m_659 m_396 m_397 m_34 m_398 (by decide +kernel) (by decide) gE_11 rfl hE hP hS (fun _ h => h) (fun _ _ h => h) rfl hl.1 rfl (Nat.le_of_ble_eq_true rfl) dX6_isKeptByHusband_11 ⟨by decide, by decide⟩ ⟨Nat.zero_le _, Nat.zero_le _⟩ (fun H locs hP hS => ?_)
  refine lv_if_eq (tgt := 47) hx hb dX6_isKeptByHusband_14 (by decide) (fun c5 => ?_) (fun c5 => ?_)
  · have h := g_ift c5 h
    refine lv_iconst (v := 0) hx hb dX6_isKeptByHusband_47 (by decide) ?_
    exact g_zret hx hb hr hlk hE hP hS (by decide) h dX6_isKeptByHusband_48
  · have h := g_iff c5 h
    refine lv_aload_n hx hb dX6_isKeptByHusband_17 rfl (lv_at hl 2 rfl) ?_
    refine lv_iload_n hx hb dX6_isKeptByHusband_18 rfl (lv_at hl 3 rfl) ?_
    refine lv_iload hx hb dX6_isKeptByHusband_19 (lv_at hl 0 rfl) ?_
    obtain ⟨r7, σ6, hcr7, h⟩ := g_bd h
    refine g_callV (As := [.int a1, .int x2]) (n := 2) hx hb hml hown ht (c_X5_isWifeOf l G _ _ _ hcr7) m_660 m_661 m_662 m_34 m_663 (by decide +kernel) (by decide) gE_11 rfl hE hP hS (fun _ h => h) (fun _ _ h => h) rfl hl.1 rfl (Nat.le_of_ble_eq_true rfl) dX6_isKeptByHusband_21 ⟨by decide, by decide⟩ ⟨Nat.zero_le _, Nat.zero_le _⟩ (fun H locs hP hS => ?_)
    refine lv_if_eq (tgt := 47) hx hb dX6_isKeptByHusband_24 (by decide) (fun c8 => ?_) (fun c8 => ?_)
    · have h := g_ift c8 h
      refine lv_iconst (v := 0) hx hb dX6_isKeptByHusband_47 (by decide) ?_
      exact g_zret hx hb hr hlk hE hP hS (by decide) h dX6_isKeptByHusband_48
    · have h := g_iff c8 h
      refine lv_aload_n hx hb dX6_isKeptByHusband_27 rfl (lv_at hl 1 rfl) ?_
      refine lv_iload hx hb dX6_isKeptByHusband_28 (lv_at hl 0 rfl) ?_
      refine lv_iload_n hx hb dX6_isKeptByHusband_30 rfl (lv_at hl 4 rfl) ?_
      obtain ⟨r10, σ9, hcr10, h⟩ := g_bd h
      refine g_callV (As := [.int x2, .int a2]) (n := 2) hx hb hml hown ht (c_X6_listIn l G _ _ _ hcr10) m_654 m_646 m_647 m_38 m_648 (by decide +kernel) (by decide) gE_38 rfl hE hP hS (fun _ h => h) (fun _ _ h => h) rfl hl.1 rfl (Nat.le_of_ble_eq_true rfl) dX6_isKeptByHusband_31 ⟨by decide, by decide⟩ ⟨Nat.zero_le _, Nat.zero_le _⟩ (fun H locs hP hS => ?_)
      refine lv_aload_n hx hb dX6_isKeptByHusband_34 rfl (lv_at hl 1 rfl) ?_
      refine lv_iload_n hx hb dX6_isKeptByHusband_35 rfl (lv_at hl 3 rfl) ?_
      refine lv_iload_n hx hb dX6_isKeptByHusband_36 rfl (lv_at hl 4 rfl) ?_
      obtain ⟨r12, σ11, hcr12, h⟩ := g_bd h
      refine g_callV (As := [.int a1, .int a2]) (n := 2) hx hb hml hown ht (c_X6_listIn l G _ _ _ hcr12) m_654 m_646 m_647 m_38 m_648 (by decide +kernel) (by decide) gE_38 rfl hE hP hS (fun _ h => h) (fun _ _ h => h) rfl hl.1 rfl (Nat.le_of_ble_eq_true rfl) dX6_isKeptByHusband_37 ⟨by decide, by decide⟩ ⟨Nat.zero_le _, Nat.zero_le _⟩ (fun H locs hP hS => ?_)
      refine lv_icmp_ne (tgt := 47) hx hb dX6_isKeptByHusband_40 (by decide) (fun c13 => ?_) (fun c13 => ?_)
      · have h := g_iff c13 h
        refine lv_iconst (v := 0) hx hb dX6_isKeptByHusband_47 (by decide) ?_
        exact g_zret hx hb hr hlk hE hP hS (by decide) h dX6_isKeptByHusband_48
      · have h := g_ift c13 h
        refine lv_iconst (v := 1) hx hb dX6_isKeptByHusband_43 (by decide) ?_
        refine lv_goto (tgt := 48) hx hb dX6_isKeptByHusband_44 (by decide) ?_
        exact g_zret hx hb hr hlk hE hP hS (by decide) h dX6_isKeptByHusband_48

def L8_X6_reliefOf (r2 a1 a2 : Int32) : Nat → Int32 → Int32 → gSt → (Int32 → Int32 → gSt → gO) → gO
  | 0, _, _, _, _ => none
  | nL8 + 1, l8_6, l8_5, σL8, kL8 =>
    if (σL8 11 0) ≤ l8_6 then (kL8 l8_6 l8_5 σL8) else (gBd (M_X5_isWifeOf l8_6 a1 σL8) (fun r11 σ10 => if r11 = 0 then (gNm (l8_6 + 1 : Int32) (fun x13 => L8_X6_reliefOf r2 a1 a2 nL8 x13 l8_5 σ10 kL8)) else (gBd (M_X6_listIn l8_6 a2 σ10) (fun r15 σ14 => if r15 = r2 then (gNm (l8_5 + 2 : Int32) (fun x18 => gNm (l8_6 + 1 : Int32) (fun x19 => L8_X6_reliefOf r2 a1 a2 nL8 x19 x18 σ14 kL8))) else (gNm (l8_6 + 1 : Int32) (fun x17 => L8_X6_reliefOf r2 a1 a2 nL8 x17 l8_5 σ14 kL8))))))
def M_X6_reliefOf (a1 a2 : Int32) (σ : gSt) : gO :=
  gBd (M_X6_listIn a1 a2 σ) (fun r2 σ1 => if r2 = (-1) then (some (0, σ1)) else (gBd (M_X6_isKeptByHusband a1 a2 σ1) (fun r5 σ4 => if r5 = 0 then (gNm ((σ4 38 0) : Int32) (fun x7 => L8_X6_reliefOf r2 a1 a2 gFu 0 x7 σ4 (fun z20 z21 σ22 => gIx 60 a2 (gIx 10 a1 (some ((if 0 < ((z21 * (σ22 42 a2.toNatClampNeg)) - (σ22 41 a1.toNatClampNeg)) then ((z21 * (σ22 42 a2.toNatClampNeg)) - (σ22 41 a1.toNatClampNeg)) else 0), σ22)))))) else (some (0, σ4)))))
set_option maxHeartbeats 4000000 in
set_option maxRecDepth 100000 in
theorem c_X6_reliefOf (l : Launch) (G : gPar) (a1 a2 : Int32) (σ : gSt) {r : Int32} {σ' : gSt} (h : M_X6_reliefOf a1 a2 σ = some (r, σ')) : gC l G yX6_reliefOf cX6_reliefOf 7 (some .int) 2 46 [.ref (G.2.2.1 38), .ref (G.2.2.1 11), .int a1, .int a2] σ r σ' := by
  refine gC_of (by decide) (Nat.le_of_ble_eq_true rfl) ?_
  intro p e s m below meth c hx hb hr ht hown hlk hml hE hP ls hl
  have hS : va_S (gA G) s.heap s.heap [] := va_S.rf
  have hl : lv_has ls 7 [(0, .ref (G.2.2.1 38)), (1, .ref (G.2.2.1 11)), (2, .int a1), (3, .int a2)] := hl
  unfold M_X6_reliefOf at h
  refine lv_aload_n hx hb dX6_reliefOf_0 rfl (lv_at hl 0 rfl) ?_
  refine lv_iload_n hx hb dX6_reliefOf_1 rfl (lv_at hl 2 rfl) ?_
  refine lv_iload_n hx hb dX6_reliefOf_2 rfl (lv_at hl 3 rfl) ?_
  obtain ⟨r2, σ1, hcr2, h⟩ := g_bd h
  refine g_callV (As := [.int a1, .int a2]) (n := 2) hx hb hml hown ht (c_X6_listIn l G _ _ _ hcr2) m_654 m_646 m_647 m_38 m_648 (by decide +kernel) (by decide) gE_38 rfl hE hP hS (fun _ h => h) (fun _ _ h => h) rfl hl.1 rfl (Nat.le_of_ble_eq_true rfl) dX6_reliefOf_3 ⟨by decide, by decide⟩ ⟨Nat.zero_le _, Nat.zero_le _⟩ (fun H locs hP hS => ?_)
  refine lv_istore (lv' := [(4, .int r2), (0, .ref (G.2.2.1 38)), (1, .ref (G.2.2.1 11)), (2, .int a1), (3, .int a2)]) hx hb dX6_reliefOf_6 hl (by decide) rfl (fun ls hl => ?_)
  refine lv_iload hx hb dX6_reliefOf_8 (lv_at hl 0 rfl) ?_
  refine lv_iconst (v := (-1)) hx hb dX6_reliefOf_10 (by decide) ?_
  refine lv_icmp_eq (tgt := 24) hx hb dX6_reliefOf_11 (by decide) (fun c3 => ?_) (fun c3 => ?_)
  · have h := g_ift c3 h
    refine lv_iconst (v := 0) hx hb dX6_reliefOf_24 (by decide) ?_
    exact g_iret hx hb hr hlk hE hP hS h dX6_reliefOf_25
  · have h := g_iff c3 h
    refine lv_aload_n hx hb dX6_reliefOf_14 rfl (lv_at hl 1 rfl) ?_
    refine lv_aload_n hx hb dX6_reliefOf_15 rfl (lv_at hl 2 rfl) ?_
    refine lv_iload_n hx hb dX6_reliefOf_16 rfl (lv_at hl 3 rfl) ?_
    refine lv_iload_n hx hb dX6_reliefOf_17 rfl (lv_at hl 4 rfl) ?_
    obtain ⟨r5, σ4, hcr5, h⟩ := g_bd h
    refine g_callV (As := [.ref (G.2.2.1 11), .int a1, .int a2]) (n := 3) hx hb hml hown ht (c_X6_isKeptByHusband l G _ _ _ hcr5) m_655 m_656 m_657 m_38 m_658 (by decide +kernel) (by decide) gE_38 rfl hE hP hS (fun _ h => h) (fun _ _ h => h) rfl hl.1 rfl (Nat.le_of_ble_eq_true rfl) dX6_reliefOf_18 ⟨by decide, by decide⟩ ⟨Nat.zero_le _, Nat.zero_le _⟩ (fun H locs hP hS => ?_)
    refine lv_if_eq (tgt := 26) hx hb dX6_reliefOf_21 (by decide) (fun c6 => ?_) (fun c6 => ?_)
    · have h := g_ift c6 h
      refine lv_aload_n hx hb dX6_reliefOf_26 rfl (lv_at hl 1 rfl) ?_
      refine g_get hx hb ht hown hE hP (by decide) gE_38 uX6 rfl 0 (by decide) m_225 rfl rfl dX6_reliefOf_27 ?_
      refine lv_topi (fun x7 ex7 => ?_)
      have h := g_nm ex7 h
      refine lv_istore (lv' := [(5, .int x7), (4, .int r2), (0, .ref (G.2.2.1 38)), (1, .ref (G.2.2.1 11)), (2, .int a1), (3, .int a2)]) hx hb dX6_reliefOf_30 hl (by decide) rfl (fun ls hl => ?_)
      refine lv_iconst (v := 0) hx hb dX6_reliefOf_32 (by decide) ?_
      refine lv_istore (lv' := [(6, .int 0), (5, .int x7), (4, .int r2), (0, .ref (G.2.2.1 38)), (1, .ref (G.2.2.1 11)), (2, .int a1), (3, .int a2)]) hx hb dX6_reliefOf_33 hl (by decide) rfl (fun ls hl => ?_)
      have LPL8 : ∀ (kL8 : Int32 → Int32 → gSt → gO), (∀ (l8_6 l8_5 : Int32) (σL8 : gSt) (H : Heap) (locs : List Loc) (ls : Array Slot), kL8 l8_6 l8_5 σL8 = some (r, σ') → gW G σL8 H → va_S (gA G) s.heap H locs → lv_has ls 7 [(6, .int l8_6), (5, .int l8_5), (4, .int r2), (0, .ref (G.2.2.1 38)), (1, .ref (G.2.2.1 11)), (2, .int a1), (3, .int a2)] → W p l e (gRm 2 46) s m ([.ref (G.2.2.1 38), .ref (G.2.2.1 11), .int a1, .int a2].toArray) below meth c H locs 0 0 (MQ below (gQ G r σ') ([.ref (G.2.2.1 38), .ref (G.2.2.1 11), .int a1, .int a2].toArray) s 0 0 (gA G)) (F0 m 75 ls [])) → ∀ (nL8 : Nat) (l8_6 l8_5 : Int32) (σL8 : gSt) (H : Heap) (locs : List Loc) (ls : Array Slot), L8_X6_reliefOf r2 a1 a2 nL8 l8_6 l8_5 σL8 kL8 = some (r, σ') → gW G σL8 H → va_S (gA G) s.heap H locs → lv_has ls 7 [(6, .int l8_6), (5, .int l8_5), (4, .int r2), (0, .ref (G.2.2.1 38)), (1, .ref (G.2.2.1 11)), (2, .int a1), (3, .int a2)] → W p l e (gRm 2 46) s m ([.ref (G.2.2.1 38), .ref (G.2.2.1 11), .int a1, .int a2].toArray) below meth c H locs 0 0 (MQ below (gQ G r σ') ([.ref (G.2.2.1 38), .ref (G.2.2.1 11), .int a1, .int a2].toArray) s 0 0 (gA G)) (F0 m 35 ls []) := by
        intro kL8 hKL8 nL8
        induction nL8 with
        | zero =>
          intro l8_6 l8_5 σL8 H locs ls h
          cases h
        | succ nL8 ihL8 =>
          intro l8_6 l8_5 σL8 H locs ls h hP hS hl
          rw [L8_X6_reliefOf] at h
          refine lv_iload hx hb dX6_reliefOf_35 (lv_at hl 0 rfl) ?_
          refine lv_aload_n hx hb dX6_reliefOf_37 rfl (lv_at hl 4 rfl) ?_
          refine g_get hx hb ht hown hE hP (by decide) gE_11 uX5 rfl 0 (by decide) m_88 rfl rfl dX6_reliefOf_38 ?_
          refine lv_icmp_ge (tgt := 75) hx hb dX6_reliefOf_41 (by decide) (fun c9 => ?_) (fun c9 => ?_)
          · have h := g_ift c9 h
            exact hKL8 _ _ _ _ _ _ h hP hS (lv_sub hl [0, 1, 2, 3, 4, 5, 6] rfl)
          · have h := g_iff c9 h
            refine lv_aload_n hx hb dX6_reliefOf_44 rfl (lv_at hl 4 rfl) ?_
            refine lv_iload hx hb dX6_reliefOf_45 (lv_at hl 0 rfl) ?_
            refine lv_iload_n hx hb dX6_reliefOf_47 rfl (lv_at hl 5 rfl) ?_
            obtain ⟨r11, σ10, hcr11, h⟩ := g_bd h
            refine g_callV (As := [.int l8_6, .int a1]) (n := 2) hx hb hml hown ht (c_X5_isWifeOf l G _ _ _ hcr11) m_660 m_661 m_662 m_34 m_663 (by decide +kernel) (by decide) gE_11 rfl hE hP hS (fun _ h => h) (fun _ _ h => h) rfl hl.1 rfl (Nat.le_of_ble_eq_true rfl) dX6_reliefOf_48 ⟨by decide, by decide⟩ ⟨Nat.zero_le _, Nat.zero_le _⟩ (fun H locs hP hS => ?_)
            refine lv_if_eq (tgt := 69) hx hb dX6_reliefOf_51 (by decide) (fun c12 => ?_) (fun c12 => ?_)
            · have h := g_ift c12 h
              obtain ⟨x13, ex13⟩ : ∃ y : Int32, y = l8_6 + 1 := ⟨_, rfl⟩
              have h := g_nm ex13 h
              refine lv_iinc (v := x13) (lv' := [(6, .int x13), (5, .int l8_5), (4, .int r2), (0, .ref (G.2.2.1 38)), (1, .ref (G.2.2.1 11)), (2, .int a1), (3, .int a2)]) hx hb dX6_reliefOf_69 hl (k := 0) rfl (by rw [ex13]; rfl) (by decide) rfl (fun ls hl => ?_)
              refine lv_goto (tgt := 35) hx hb dX6_reliefOf_72 (by decide) ?_
              exact ihL8 _ _ _ _ _ _ h hP hS (lv_sub hl [0, 1, 2, 3, 4, 5, 6] rfl)
            · have h := g_iff c12 h
              refine lv_aload_n hx hb dX6_reliefOf_54 rfl (lv_at hl 3 rfl) ?_
              refine lv_iload hx hb dX6_reliefOf_55 (lv_at hl 0 rfl) ?_
              refine lv_iload_n hx hb dX6_reliefOf_57 rfl (lv_at hl 6 rfl) ?_
              obtain ⟨r15, σ14, hcr15, h⟩ := g_bd h
              refine g_callV (As := [.int l8_6, .int a2]) (n := 2) hx hb hml hown ht (c_X6_listIn l G _ _ _ hcr15) m_654 m_646 m_647 m_38 m_648 (by decide +kernel) (by decide) gE_38 rfl hE hP hS (fun _ h => h) (fun _ _ h => h) rfl hl.1 rfl (Nat.le_of_ble_eq_true rfl) dX6_reliefOf_58 ⟨by decide, by decide⟩ ⟨Nat.zero_le _, Nat.zero_le _⟩ (fun H locs hP hS => ?_)
              refine lv_iload hx hb dX6_reliefOf_61 (lv_at hl 2 rfl) ?_
              refine lv_icmp_ne (tgt := 69) hx hb dX6_reliefOf_63 (by decide) (fun c16 => ?_) (fun c16 => ?_)
              · have h := g_iff c16 h
                obtain ⟨x17, ex17⟩ : ∃ y : Int32, y = l8_6 + 1 := ⟨_, rfl⟩
                have h := g_nm ex17 h
                refine lv_iinc (v := x17) (lv' := [(6, .int x17), (5, .int l8_5), (4, .int r2), (0, .ref (G.2.2.1 38)), (1, .ref (G.2.2.1 11)), (2, .int a1), (3, .int a2)]) hx hb dX6_reliefOf_69 hl (k := 0) rfl (by rw [ex17]; rfl) (by decide) rfl (fun ls hl => ?_)
                refine lv_goto (tgt := 35) hx hb dX6_reliefOf_72 (by decide) ?_
                exact ihL8 _ _ _ _ _ _ h hP hS (lv_sub hl [0, 1, 2, 3, 4, 5, 6] rfl)
              · have h := g_ift c16 h
                obtain ⟨x18, ex18⟩ : ∃ y : Int32, y = l8_5 + 2 := ⟨_, rfl⟩
                have h := g_nm ex18 h
                refine lv_iinc (v := x18) (lv' := [(5, .int x18), (6, .int l8_6), (4, .int r2), (0, .ref (G.2.2.1 38)), (1, .ref (G.2.2.1 11)), (2, .int a1), (3, .int a2)]) hx hb dX6_reliefOf_66 hl (k := 1) rfl (by rw [ex18]; rfl) (by decide) rfl (fun ls hl => ?_)
                obtain ⟨x19, ex19⟩ : ∃ y : Int32, y = l8_6 + 1 := ⟨_, rfl⟩
                have h := g_nm ex19 h
                refine lv_iinc (v := x19) (lv' := [(6, .int x19), (5, .int x18), (4, .int r2), (0, .ref (G.2.2.1 38)), (1, .ref (G.2.2.1 11)), (2, .int a1), (3, .int a2)]) hx hb dX6_reliefOf_69 hl (k := 1) rfl (by rw [ex19]; rfl) (by decide) rfl (fun ls hl => ?_)
                refine lv_goto (tgt := 35) hx hb dX6_reliefOf_72 (by decide) ?_
                exact ihL8 _ _ _ _ _ _ h hP hS (lv_sub hl [0, 1, 2, 3, 4, 5, 6] rfl)
      refine LPL8 _ (fun z20 z21 σ22 H locs ls h hP hS hl => ?_) gFu _ _ _ _ _ _ h hP hS (lv_sub hl [0, 1, 2, 3, 4, 5, 6] rfl)
      refine lv_iconst (v := 0) hx hb dX6_reliefOf_75 (by decide) ?_
      refine lv_iload hx hb dX6_reliefOf_76 (lv_at hl 1 rfl) ?_
      refine lv_aload_n hx hb dX6_reliefOf_78 rfl (lv_at hl 3 rfl) ?_
      refine g_get hx hb ht hown hE hP (by decide) gE_38 uX6 rfl 4 (by decide) m_233 rfl rfl dX6_reliefOf_79 ?_
      refine lv_iload_n hx hb dX6_reliefOf_82 rfl (lv_at hl 6 rfl) ?_
      obtain ⟨i23, h⟩ := g_ix h
      refine g_iald hx hb hE hP (by decide) rfl (by decide) i23 dX6_reliefOf_83 ?_
      refine lv_imul hx hb dX6_reliefOf_84 ?_
      refine lv_aload_n hx hb dX6_reliefOf_85 rfl (lv_at hl 3 rfl) ?_
      refine g_get hx hb ht hown hE hP (by decide) gE_38 uX6 rfl 3 (by decide) m_231 rfl rfl dX6_reliefOf_86 ?_
      refine lv_iload_n hx hb dX6_reliefOf_89 rfl (lv_at hl 5 rfl) ?_
      obtain ⟨i24, h⟩ := g_ix h
      refine g_iald hx hb hE hP (by decide) rfl (by decide) i24 dX6_reliefOf_90 ?_
      refine lv_isub hx hb dX6_reliefOf_91 ?_
      refine g_max hx hb (hml.trans hl.1.symm) hown ht m_664 m_591 m_43 m_592 (Nat.le_of_ble_eq_true rfl) (Nat.le_of_ble_eq_true rfl) ⟨Nat.zero_le _, Nat.zero_le _⟩ dX6_reliefOf_92 ?_
      exact g_iret hx hb hr hlk hE hP hS h dX6_reliefOf_95
    · have h := g_iff c6 h
      refine lv_iconst (v := 0) hx hb dX6_reliefOf_24 (by decide) ?_
      exact g_iret hx hb hr hlk hE hP hS h dX6_reliefOf_25

def L1_X6_reliefOfAll (a1 a2 : Int32) : Nat → Int32 → Int32 → gSt → (Int32 → Int32 → gSt → gO) → gO
  | 0, _, _, _, _ => none
  | nL1 + 1, l1_5, l1_4, σL1, kL1 =>
    if (σL1 11 0) ≤ l1_5 then (kL1 l1_5 l1_4 σL1) else (gBd (M_X6_listIn l1_5 a2 σL1) (fun r4 σ3 => if r4 = a1 then (gBd (M_X6_reliefOf l1_5 a2 σ3) (fun r8 σ7 => gNm ((l1_4 + r8) : Int32) (fun x9 => gNm (l1_5 + 1 : Int32) (fun x10 => L1_X6_reliefOfAll a1 a2 nL1 x10 x9 σ7 kL1)))) else (gNm (l1_5 + 1 : Int32) (fun x6 => L1_X6_reliefOfAll a1 a2 nL1 x6 l1_4 σ3 kL1))))
def M_X6_reliefOfAll (a1 a2 : Int32) (σ : gSt) : gO :=
  L1_X6_reliefOfAll a1 a2 gFu 0 0 σ (fun z11 z12 σ13 => some (z12, σ13))
set_option maxHeartbeats 4000000 in
set_option maxRecDepth 100000 in
theorem c_X6_reliefOfAll (l : Launch) (G : gPar) (a1 a2 : Int32) (σ : gSt) {r : Int32} {σ' : gSt} (h : M_X6_reliefOfAll a1 a2 σ = some (r, σ')) : gC l G yX6_reliefOfAll cX6_reliefOfAll 6 (some .int) 3 72 [.ref (G.2.2.1 38), .ref (G.2.2.1 11), .int a1, .int a2] σ r σ' := by
  refine gC_of (by decide) (Nat.le_of_ble_eq_true rfl) ?_
  intro p e s m below meth c hx hb hr ht hown hlk hml hE hP ls hl
  have hS : va_S (gA G) s.heap s.heap [] := va_S.rf
  have hl : lv_has ls 6 [(0, .ref (G.2.2.1 38)), (1, .ref (G.2.2.1 11)), (2, .int a1), (3, .int a2)] := hl
  unfold M_X6_reliefOfAll at h
  refine lv_iconst (v := 0) hx hb dX6_reliefOfAll_0 (by decide) ?_
  refine lv_istore (lv' := [(4, .int 0), (0, .ref (G.2.2.1 38)), (1, .ref (G.2.2.1 11)), (2, .int a1), (3, .int a2)]) hx hb dX6_reliefOfAll_1 hl (by decide) rfl (fun ls hl => ?_)
  refine lv_iconst (v := 0) hx hb dX6_reliefOfAll_3 (by decide) ?_
  refine lv_istore (lv' := [(5, .int 0), (4, .int 0), (0, .ref (G.2.2.1 38)), (1, .ref (G.2.2.1 11)), (2, .int a1), (3, .int a2)]) hx hb dX6_reliefOfAll_4 hl (by decide) rfl (fun ls hl => ?_)
  have LPL1 : ∀ (kL1 : Int32 → Int32 → gSt → gO), (∀ (l1_5 l1_4 : Int32) (σL1 : gSt) (H : Heap) (locs : List Loc) (ls : Array Slot), kL1 l1_5 l1_4 σL1 = some (r, σ') → gW G σL1 H → va_S (gA G) s.heap H locs → lv_has ls 6 [(5, .int l1_5), (4, .int l1_4), (0, .ref (G.2.2.1 38)), (1, .ref (G.2.2.1 11)), (2, .int a1), (3, .int a2)] → W p l e (gRm 3 72) s m ([.ref (G.2.2.1 38), .ref (G.2.2.1 11), .int a1, .int a2].toArray) below meth c H locs 0 0 (MQ below (gQ G r σ') ([.ref (G.2.2.1 38), .ref (G.2.2.1 11), .int a1, .int a2].toArray) s 0 0 (gA G)) (F0 m 45 ls [])) → ∀ (nL1 : Nat) (l1_5 l1_4 : Int32) (σL1 : gSt) (H : Heap) (locs : List Loc) (ls : Array Slot), L1_X6_reliefOfAll a1 a2 nL1 l1_5 l1_4 σL1 kL1 = some (r, σ') → gW G σL1 H → va_S (gA G) s.heap H locs → lv_has ls 6 [(5, .int l1_5), (4, .int l1_4), (0, .ref (G.2.2.1 38)), (1, .ref (G.2.2.1 11)), (2, .int a1), (3, .int a2)] → W p l e (gRm 3 72) s m ([.ref (G.2.2.1 38), .ref (G.2.2.1 11), .int a1, .int a2].toArray) below meth c H locs 0 0 (MQ below (gQ G r σ') ([.ref (G.2.2.1 38), .ref (G.2.2.1 11), .int a1, .int a2].toArray) s 0 0 (gA G)) (F0 m 6 ls []) := by
    intro kL1 hKL1 nL1
    induction nL1 with
    | zero =>
      intro l1_5 l1_4 σL1 H locs ls h
      cases h
    | succ nL1 ihL1 =>
      intro l1_5 l1_4 σL1 H locs ls h hP hS hl
      rw [L1_X6_reliefOfAll] at h
      refine lv_iload hx hb dX6_reliefOfAll_6 (lv_at hl 0 rfl) ?_
      refine lv_aload_n hx hb dX6_reliefOfAll_8 rfl (lv_at hl 3 rfl) ?_
      refine g_get hx hb ht hown hE hP (by decide) gE_11 uX5 rfl 0 (by decide) m_88 rfl rfl dX6_reliefOfAll_9 ?_
      refine lv_icmp_ge (tgt := 45) hx hb dX6_reliefOfAll_12 (by decide) (fun c2 => ?_) (fun c2 => ?_)
      · have h := g_ift c2 h
        exact hKL1 _ _ _ _ _ _ h hP hS (lv_sub hl [0, 1, 2, 3, 4, 5] rfl)
      · have h := g_iff c2 h
        refine lv_aload_n hx hb dX6_reliefOfAll_15 rfl (lv_at hl 2 rfl) ?_
        refine lv_iload hx hb dX6_reliefOfAll_16 (lv_at hl 0 rfl) ?_
        refine lv_iload_n hx hb dX6_reliefOfAll_18 rfl (lv_at hl 5 rfl) ?_
        obtain ⟨r4, σ3, hcr4, h⟩ := g_bd h
        refine g_callV (As := [.int l1_5, .int a2]) (n := 2) hx hb hml hown ht (c_X6_listIn l G _ _ _ hcr4) m_654 m_646 m_647 m_38 m_648 (by decide +kernel) (by decide) gE_38 rfl hE hP hS (fun _ h => h) (fun _ _ h => h) rfl hl.1 rfl (Nat.le_of_ble_eq_true rfl) dX6_reliefOfAll_19 ⟨by decide, by decide⟩ ⟨Nat.zero_le _, Nat.zero_le _⟩ (fun H locs hP hS => ?_)
        refine lv_iload_n hx hb dX6_reliefOfAll_22 rfl (lv_at hl 4 rfl) ?_
        refine lv_icmp_ne (tgt := 39) hx hb dX6_reliefOfAll_23 (by decide) (fun c5 => ?_) (fun c5 => ?_)
        · have h := g_iff c5 h
          obtain ⟨x6, ex6⟩ : ∃ y : Int32, y = l1_5 + 1 := ⟨_, rfl⟩
          have h := g_nm ex6 h
          refine lv_iinc (v := x6) (lv' := [(5, .int x6), (4, .int l1_4), (0, .ref (G.2.2.1 38)), (1, .ref (G.2.2.1 11)), (2, .int a1), (3, .int a2)]) hx hb dX6_reliefOfAll_39 hl (k := 0) rfl (by rw [ex6]; rfl) (by decide) rfl (fun ls hl => ?_)
          refine lv_goto (tgt := 6) hx hb dX6_reliefOfAll_42 (by decide) ?_
          exact ihL1 _ _ _ _ _ _ h hP hS (lv_sub hl [0, 1, 2, 3, 4, 5] rfl)
        · have h := g_ift c5 h
          refine lv_iload hx hb dX6_reliefOfAll_26 (lv_at hl 1 rfl) ?_
          refine lv_aload_n hx hb dX6_reliefOfAll_28 rfl (lv_at hl 2 rfl) ?_
          refine lv_aload_n hx hb dX6_reliefOfAll_29 rfl (lv_at hl 3 rfl) ?_
          refine lv_iload hx hb dX6_reliefOfAll_30 (lv_at hl 0 rfl) ?_
          refine lv_iload_n hx hb dX6_reliefOfAll_32 rfl (lv_at hl 5 rfl) ?_
          obtain ⟨r8, σ7, hcr8, h⟩ := g_bd h
          refine g_callV (As := [.ref (G.2.2.1 11), .int l1_5, .int a2]) (n := 3) hx hb hml hown ht (c_X6_reliefOf l G _ _ _ hcr8) m_673 m_651 m_652 m_38 m_653 (by decide +kernel) (by decide) gE_38 rfl hE hP hS (fun _ h => h) (fun _ _ h => h) rfl hl.1 rfl (Nat.le_of_ble_eq_true rfl) dX6_reliefOfAll_33 ⟨by decide, by decide⟩ ⟨Nat.zero_le _, Nat.zero_le _⟩ (fun H locs hP hS => ?_)
          refine lv_iadd hx hb dX6_reliefOfAll_36 ?_
          refine lv_topi (fun x9 ex9 => ?_)
          have h := g_nm ex9 h
          refine lv_istore (lv' := [(4, .int x9), (5, .int l1_5), (0, .ref (G.2.2.1 38)), (1, .ref (G.2.2.1 11)), (2, .int a1), (3, .int a2)]) hx hb dX6_reliefOfAll_37 hl (by decide) rfl (fun ls hl => ?_)
          obtain ⟨x10, ex10⟩ : ∃ y : Int32, y = l1_5 + 1 := ⟨_, rfl⟩
          have h := g_nm ex10 h
          refine lv_iinc (v := x10) (lv' := [(5, .int x10), (4, .int x9), (0, .ref (G.2.2.1 38)), (1, .ref (G.2.2.1 11)), (2, .int a1), (3, .int a2)]) hx hb dX6_reliefOfAll_39 hl (k := 1) rfl (by rw [ex10]; rfl) (by decide) rfl (fun ls hl => ?_)
          refine lv_goto (tgt := 6) hx hb dX6_reliefOfAll_42 (by decide) ?_
          exact ihL1 _ _ _ _ _ _ h hP hS (lv_sub hl [0, 1, 2, 3, 4, 5] rfl)
  refine LPL1 _ (fun z11 z12 σ13 H locs ls h hP hS hl => ?_) gFu _ _ _ _ _ _ h hP hS (lv_sub hl [0, 1, 2, 3, 4, 5] rfl)
  refine lv_iload hx hb dX6_reliefOfAll_45 (lv_at hl 1 rfl) ?_
  exact g_iret hx hb hr hlk hE hP hS h dX6_reliefOfAll_47

def L2_X6_readPrices (j : Nat) (x1 : Int32) : Nat → Int32 → Int32 → gSt → (Int32 → Int32 → gSt → gO) → gO
  | 0, _, _, _, _ => none
  | nL2 + 1, l2_4, l2_2, σL2, kL2 =>
    if x1 ≤ l2_4 then (kL2 l2_4 l2_2 σL2) else (gIx 60 l2_4 (gBd (M_X9_within (σL2 (97 + j) l2_4.toNatClampNeg) 1 99 σL2) (fun r6 σ5 => if r6 = 0 then (gIx 60 l2_4 (gNm (gUp σ5 42 l2_4.toNatClampNeg 0) (fun σ9 => if r6 = 0 then (gNm ((l2_2 + 0) : Int32) (fun x11 => gNm (l2_4 + 1 : Int32) (fun x12 => L2_X6_readPrices j x1 nL2 x12 x11 σ9 kL2))) else (gNm ((l2_2 + 1) : Int32) (fun x13 => gNm (l2_4 + 1 : Int32) (fun x14 => L2_X6_readPrices j x1 nL2 x14 x13 σ9 kL2)))))) else (gIx 60 l2_4 (gIx 60 l2_4 (gNm (gUp σ5 42 l2_4.toNatClampNeg (σ5 (97 + j) l2_4.toNatClampNeg)) (fun σ17 => if r6 = 0 then (gNm ((l2_2 + 0) : Int32) (fun x19 => gNm (l2_4 + 1 : Int32) (fun x20 => L2_X6_readPrices j x1 nL2 x20 x19 σ17 kL2))) else (gNm ((l2_2 + 1) : Int32) (fun x21 => gNm (l2_4 + 1 : Int32) (fun x22 => L2_X6_readPrices j x1 nL2 x22 x21 σ17 kL2))))))))))
def M_X6_readPrices (j : Nat) (σ : gSt) : gO :=
  gNm ((if 60 < (σ (93 + j) 1) then 60 else (σ (93 + j) 1)) : Int32) (fun x1 => L2_X6_readPrices j x1 gFu 0 0 σ (fun z23 z24 σ25 => some (z24, σ25)))
set_option maxHeartbeats 4000000 in
set_option maxRecDepth 100000 in
theorem c_X6_readPrices (l : Launch) (G : gPar) (j : Nat) (hj : j < 4) (σ : gSt) {r : Int32} {σ' : gSt} (h : M_X6_readPrices j σ = some (r, σ')) : gC l G yX6_readPrices cX6_readPrices 6 (some .int) 1 22 [.ref (G.2.2.1 38), .ref (G.2.2.1 (93 + j))] σ r σ' := by
  refine gC_of (by decide) (Nat.le_of_ble_eq_true rfl) ?_
  intro p e s m below meth c hx hb hr ht hown hlk hml hE hP ls hl
  have hS : va_S (gA G) s.heap s.heap [] := va_S.rf
  have hl : lv_has ls 6 [(0, .ref (G.2.2.1 38)), (1, .ref (G.2.2.1 (93 + j)))] := hl
  unfold M_X6_readPrices at h
  refine lv_iconst (v := 0) hx hb dX6_readPrices_0 (by decide) ?_
  refine lv_istore_n (lv' := [(2, .int 0), (0, .ref (G.2.2.1 38)), (1, .ref (G.2.2.1 (93 + j)))]) hx hb dX6_readPrices_1 rfl hl (by decide) rfl (fun ls hl => ?_)
  refine lv_aload_n hx hb dX6_readPrices_2 rfl (lv_at hl 2 rfl) ?_
  refine g_get hx hb ht hown hE hP (show 93 + j < 110 by omega) (gE_sheet hj) uX8 rfl 1 (by decide) m_319 rfl rfl dX6_readPrices_3 ?_
  refine lv_bipush (v := 60) hx hb dX6_readPrices_6 (by decide) ?_
  refine g_min hx hb (hml.trans hl.1.symm) hown ht m_731 m_732 m_43 m_733 (Nat.le_of_ble_eq_true rfl) (Nat.le_of_ble_eq_true rfl) ⟨Nat.zero_le _, Nat.zero_le _⟩ dX6_readPrices_8 ?_
  refine lv_topi (fun x1 ex1 => ?_)
  have h := g_nm ex1 h
  refine lv_istore_n (lv' := [(3, .int x1), (2, .int 0), (0, .ref (G.2.2.1 38)), (1, .ref (G.2.2.1 (93 + j)))]) hx hb dX6_readPrices_11 rfl hl (by decide) rfl (fun ls hl => ?_)
  refine lv_iconst (v := 0) hx hb dX6_readPrices_12 (by decide) ?_
  refine lv_istore (lv' := [(4, .int 0), (3, .int x1), (2, .int 0), (0, .ref (G.2.2.1 38)), (1, .ref (G.2.2.1 (93 + j)))]) hx hb dX6_readPrices_13 hl (by decide) rfl (fun ls hl => ?_)
  have LPL2 : ∀ (kL2 : Int32 → Int32 → gSt → gO), (∀ (l2_4 l2_2 : Int32) (σL2 : gSt) (H : Heap) (locs : List Loc) (ls : Array Slot), kL2 l2_4 l2_2 σL2 = some (r, σ') → gW G σL2 H → va_S (gA G) s.heap H locs → lv_has ls 6 [(4, .int l2_4), (3, .int x1), (2, .int l2_2), (0, .ref (G.2.2.1 38)), (1, .ref (G.2.2.1 (93 + j)))] → W p l e (gRm 1 22) s m ([.ref (G.2.2.1 38), .ref (G.2.2.1 (93 + j))].toArray) below meth c H locs 0 0 (MQ below (gQ G r σ') ([.ref (G.2.2.1 38), .ref (G.2.2.1 (93 + j))].toArray) s 0 0 (gA G)) (F0 m 78 ls [])) → ∀ (nL2 : Nat) (l2_4 l2_2 : Int32) (σL2 : gSt) (H : Heap) (locs : List Loc) (ls : Array Slot), L2_X6_readPrices j x1 nL2 l2_4 l2_2 σL2 kL2 = some (r, σ') → gW G σL2 H → va_S (gA G) s.heap H locs → lv_has ls 6 [(4, .int l2_4), (3, .int x1), (2, .int l2_2), (0, .ref (G.2.2.1 38)), (1, .ref (G.2.2.1 (93 + j)))] → W p l e (gRm 1 22) s m ([.ref (G.2.2.1 38), .ref (G.2.2.1 (93 + j))].toArray) below meth c H locs 0 0 (MQ below (gQ G r σ') ([.ref (G.2.2.1 38), .ref (G.2.2.1 (93 + j))].toArray) s 0 0 (gA G)) (F0 m 15 ls []) := by
    intro kL2 hKL2 nL2
    induction nL2 with
    | zero =>
      intro l2_4 l2_2 σL2 H locs ls h
      cases h
    | succ nL2 ihL2 =>
      intro l2_4 l2_2 σL2 H locs ls h hP hS hl
      rw [L2_X6_readPrices] at h
      refine lv_iload hx hb dX6_readPrices_15 (lv_at hl 0 rfl) ?_
      refine lv_iload_n hx hb dX6_readPrices_17 rfl (lv_at hl 1 rfl) ?_
      refine lv_icmp_ge (tgt := 78) hx hb dX6_readPrices_18 (by decide) (fun c3 => ?_) (fun c3 => ?_)
      · have h := g_ift c3 h
        exact hKL2 _ _ _ _ _ _ h hP hS (lv_sub hl [0, 1, 2, 3, 4] rfl)
      · have h := g_iff c3 h
        refine lv_aload_n hx hb dX6_readPrices_21 rfl (lv_at hl 4 rfl) ?_
        refine g_get hx hb ht hown hE hP (show 93 + j < 110 by omega) (gE_sheet hj) uX8 rfl 2 (by decide) m_322 rfl rfl dX6_readPrices_22 ?_
        refine lv_iload hx hb dX6_readPrices_25 (lv_at hl 0 rfl) ?_
        obtain ⟨i4, h⟩ := g_ix h
        refine g_iald hx hb hE hP (show 97 + j < 110 by omega) (gL_num hj) (by decide) i4 dX6_readPrices_27 ?_
        refine lv_iconst (v := 1) hx hb dX6_readPrices_28 (by decide) ?_
        refine lv_bipush (v := 99) hx hb dX6_readPrices_29 (by decide) ?_
        obtain ⟨r6, σ5, hcr6, h⟩ := g_bd h
        refine g_callSN (As := [.int (σL2 (97 + j) l2_4.toNatClampNeg), .int 1, .int 99]) (n := 3) (host := "PoorDesk") hx hb hml hown ht (c_X9_within l G _ _ _ _ hcr6) (by decide +kernel) m_355 m_31 m_356 (by decide +kernel) hE hP hS (fun _ h => h) (fun _ _ h => h) rfl hl.1 rfl (Nat.le_of_ble_eq_true rfl) dX6_readPrices_31 ⟨by decide, by decide⟩ ⟨Nat.zero_le _, Nat.zero_le _⟩ (fun H locs hP hS => ?_)
        refine lv_istore (lv' := [(5, .int r6), (4, .int l2_4), (3, .int x1), (2, .int l2_2), (0, .ref (G.2.2.1 38)), (1, .ref (G.2.2.1 (93 + j)))]) hx hb dX6_readPrices_34 hl (by decide) rfl (fun ls hl => ?_)
        refine lv_aload_n hx hb dX6_readPrices_36 rfl (lv_at hl 4 rfl) ?_
        refine g_get hx hb ht hown hE hP (by decide) gE_38 uX6 rfl 4 (by decide) m_233 rfl rfl dX6_readPrices_37 ?_
        refine lv_iload hx hb dX6_readPrices_40 (lv_at hl 1 rfl) ?_
        refine lv_iload hx hb dX6_readPrices_42 (lv_at hl 0 rfl) ?_
        refine lv_if_eq (tgt := 57) hx hb dX6_readPrices_44 (by decide) (fun c7 => ?_) (fun c7 => ?_)
        · have h := g_ift c7 h
          refine lv_iconst (v := 0) hx hb dX6_readPrices_57 (by decide) ?_
          obtain ⟨i8, h⟩ := g_ix h
          refine g_iast hx hb hE hP hS (by decide) rfl (by decide) i8 dX6_readPrices_58 (fun H locs σ9 eσ9 hP hS => ?_)
          have h := g_nm eσ9 h
          refine lv_iload_n hx hb dX6_readPrices_59 rfl (lv_at hl 3 rfl) ?_
          refine lv_iload hx hb dX6_readPrices_60 (lv_at hl 0 rfl) ?_
          refine lv_if_eq (tgt := 69) hx hb dX6_readPrices_62 (by decide) (fun c10 => ?_) (fun c10 => ?_)
          · have h := g_ift c10 h
            refine lv_iconst (v := 0) hx hb dX6_readPrices_69 (by decide) ?_
            refine lv_iadd hx hb dX6_readPrices_70 ?_
            refine lv_topi (fun x11 ex11 => ?_)
            have h := g_nm ex11 h
            refine lv_istore_n (lv' := [(2, .int x11), (5, .int r6), (4, .int l2_4), (3, .int x1), (0, .ref (G.2.2.1 38)), (1, .ref (G.2.2.1 (93 + j)))]) hx hb dX6_readPrices_71 rfl hl (by decide) rfl (fun ls hl => ?_)
            obtain ⟨x12, ex12⟩ : ∃ y : Int32, y = l2_4 + 1 := ⟨_, rfl⟩
            have h := g_nm ex12 h
            refine lv_iinc (v := x12) (lv' := [(4, .int x12), (2, .int x11), (5, .int r6), (3, .int x1), (0, .ref (G.2.2.1 38)), (1, .ref (G.2.2.1 (93 + j)))]) hx hb dX6_readPrices_72 hl (k := 2) rfl (by rw [ex12]; rfl) (by decide) rfl (fun ls hl => ?_)
            refine lv_goto (tgt := 15) hx hb dX6_readPrices_75 (by decide) ?_
            exact ihL2 _ _ _ _ _ _ h hP hS (lv_sub hl [0, 3, 1, 4, 5] rfl)
          · have h := g_iff c10 h
            refine lv_iconst (v := 1) hx hb dX6_readPrices_65 (by decide) ?_
            refine lv_goto (tgt := 70) hx hb dX6_readPrices_66 (by decide) ?_
            refine lv_iadd hx hb dX6_readPrices_70 ?_
            refine lv_topi (fun x13 ex13 => ?_)
            have h := g_nm ex13 h
            refine lv_istore_n (lv' := [(2, .int x13), (5, .int r6), (4, .int l2_4), (3, .int x1), (0, .ref (G.2.2.1 38)), (1, .ref (G.2.2.1 (93 + j)))]) hx hb dX6_readPrices_71 rfl hl (by decide) rfl (fun ls hl => ?_)
            obtain ⟨x14, ex14⟩ : ∃ y : Int32, y = l2_4 + 1 := ⟨_, rfl⟩
            have h := g_nm ex14 h
            refine lv_iinc (v := x14) (lv' := [(4, .int x14), (2, .int x13), (5, .int r6), (3, .int x1), (0, .ref (G.2.2.1 38)), (1, .ref (G.2.2.1 (93 + j)))]) hx hb dX6_readPrices_72 hl (k := 2) rfl (by rw [ex14]; rfl) (by decide) rfl (fun ls hl => ?_)
            refine lv_goto (tgt := 15) hx hb dX6_readPrices_75 (by decide) ?_
            exact ihL2 _ _ _ _ _ _ h hP hS (lv_sub hl [0, 3, 1, 4, 5] rfl)
        · have h := g_iff c7 h
          refine lv_aload_n hx hb dX6_readPrices_47 rfl (lv_at hl 5 rfl) ?_
          refine g_get hx hb ht hown hE hP (show 93 + j < 110 by omega) (gE_sheet hj) uX8 rfl 2 (by decide) m_322 rfl rfl dX6_readPrices_48 ?_
          refine lv_iload hx hb dX6_readPrices_51 (lv_at hl 1 rfl) ?_
          obtain ⟨i15, h⟩ := g_ix h
          refine g_iald hx hb hE hP (show 97 + j < 110 by omega) (gL_num hj) (by decide) i15 dX6_readPrices_53 ?_
          refine lv_goto (tgt := 58) hx hb dX6_readPrices_54 (by decide) ?_
          obtain ⟨i16, h⟩ := g_ix h
          refine g_iast hx hb hE hP hS (by decide) rfl (by decide) i16 dX6_readPrices_58 (fun H locs σ17 eσ17 hP hS => ?_)
          have h := g_nm eσ17 h
          refine lv_iload_n hx hb dX6_readPrices_59 rfl (lv_at hl 3 rfl) ?_
          refine lv_iload hx hb dX6_readPrices_60 (lv_at hl 0 rfl) ?_
          refine lv_if_eq (tgt := 69) hx hb dX6_readPrices_62 (by decide) (fun c18 => ?_) (fun c18 => ?_)
          · have h := g_ift c18 h
            refine lv_iconst (v := 0) hx hb dX6_readPrices_69 (by decide) ?_
            refine lv_iadd hx hb dX6_readPrices_70 ?_
            refine lv_topi (fun x19 ex19 => ?_)
            have h := g_nm ex19 h
            refine lv_istore_n (lv' := [(2, .int x19), (5, .int r6), (4, .int l2_4), (3, .int x1), (0, .ref (G.2.2.1 38)), (1, .ref (G.2.2.1 (93 + j)))]) hx hb dX6_readPrices_71 rfl hl (by decide) rfl (fun ls hl => ?_)
            obtain ⟨x20, ex20⟩ : ∃ y : Int32, y = l2_4 + 1 := ⟨_, rfl⟩
            have h := g_nm ex20 h
            refine lv_iinc (v := x20) (lv' := [(4, .int x20), (2, .int x19), (5, .int r6), (3, .int x1), (0, .ref (G.2.2.1 38)), (1, .ref (G.2.2.1 (93 + j)))]) hx hb dX6_readPrices_72 hl (k := 2) rfl (by rw [ex20]; rfl) (by decide) rfl (fun ls hl => ?_)
            refine lv_goto (tgt := 15) hx hb dX6_readPrices_75 (by decide) ?_
            exact ihL2 _ _ _ _ _ _ h hP hS (lv_sub hl [0, 3, 1, 4, 5] rfl)
          · have h := g_iff c18 h
            refine lv_iconst (v := 1) hx hb dX6_readPrices_65 (by decide) ?_
            refine lv_goto (tgt := 70) hx hb dX6_readPrices_66 (by decide) ?_
            refine lv_iadd hx hb dX6_readPrices_70 ?_
            refine lv_topi (fun x21 ex21 => ?_)
            have h := g_nm ex21 h
            refine lv_istore_n (lv' := [(2, .int x21), (5, .int r6), (4, .int l2_4), (3, .int x1), (0, .ref (G.2.2.1 38)), (1, .ref (G.2.2.1 (93 + j)))]) hx hb dX6_readPrices_71 rfl hl (by decide) rfl (fun ls hl => ?_)
            obtain ⟨x22, ex22⟩ : ∃ y : Int32, y = l2_4 + 1 := ⟨_, rfl⟩
            have h := g_nm ex22 h
            refine lv_iinc (v := x22) (lv' := [(4, .int x22), (2, .int x21), (5, .int r6), (3, .int x1), (0, .ref (G.2.2.1 38)), (1, .ref (G.2.2.1 (93 + j)))]) hx hb dX6_readPrices_72 hl (k := 2) rfl (by rw [ex22]; rfl) (by decide) rfl (fun ls hl => ?_)
            refine lv_goto (tgt := 15) hx hb dX6_readPrices_75 (by decide) ?_
            exact ihL2 _ _ _ _ _ _ h hP hS (lv_sub hl [0, 3, 1, 4, 5] rfl)
  refine LPL2 _ (fun z23 z24 σ25 H locs ls h hP hS hl => ?_) gFu _ _ _ _ _ _ h hP hS (lv_sub hl [0, 1, 2, 3, 4] rfl)
  refine lv_iload_n hx hb dX6_readPrices_78 rfl (lv_at hl 2 rfl) ?_
  exact g_iret hx hb hr hlk hE hP hS h dX6_readPrices_79

def L2_J7_fill_53178 (k n : Nat) (x1 a1 : Int32) : Nat → Int32 → gSt → (Int32 → gSt → gO) → gO
  | 0, _, _, _ => none
  | nL2 + 1, l2_2, σL2, kL2 =>
    if x1 ≤ l2_2 then (kL2 l2_2 σL2) else (gIx n l2_2 (gNm (gUp σL2 k l2_2.toNatClampNeg a1) (fun σ5 => gNm (l2_2 + 1 : Int32) (fun x6 => L2_J7_fill_53178 k n x1 a1 nL2 x6 σ5 kL2))))
def M_J7_fill_53178 (k n : Nat) (a1 : Int32) (σ : gSt) : gO :=
  gNm ((Int32.ofNat n) : Int32) (fun x1 => L2_J7_fill_53178 k n x1 a1 gFu 0 σ (fun z7 σ8 => some (0, σ8)))
set_option maxHeartbeats 4000000 in
set_option maxRecDepth 100000 in
theorem c_J7_fill_53178 (l : Launch) (G : gPar) (k n : Nat) (hk : k < gN) (hL : gLen k = n) (hz : n ≠ 0) (a1 : Int32) (σ : gSt) {r : Int32} {σ' : gSt} (h : M_J7_fill_53178 k n a1 σ = some (r, σ')) : gV l G yJ7_fill_53178 cJ7_fill_53178 4 0 0 [.ref (G.2.2.1 k), .int a1] σ σ' := by
  refine gV_of (by decide) (Nat.le_of_ble_eq_true rfl) ?_
  intro p e s m below meth c hx hb hr ht hown hlk hml hE hP ls hl
  have hS : va_S (gA G) s.heap s.heap [] := va_S.rf
  have hl : lv_has ls 4 [(0, .ref (G.2.2.1 k)), (1, .int a1)] := hl
  unfold M_J7_fill_53178 at h
  refine lv_iconst (v := 0) hx hb dJ7_fill_53178_0 (by decide) ?_
  refine lv_istore_n (lv' := [(2, .int 0), (0, .ref (G.2.2.1 k)), (1, .int a1)]) hx hb dJ7_fill_53178_1 rfl hl (by decide) rfl (fun ls hl => ?_)
  refine lv_aload_n hx hb dJ7_fill_53178_2 rfl (lv_at hl 1 rfl) ?_
  refine g_alen (v := (Int32.ofNat n)) hx hb hE hP hk hL hz rfl dJ7_fill_53178_3 ?_
  refine lv_topi (fun x1 ex1 => ?_)
  have h := g_nm ex1 h
  refine lv_istore_n (lv' := [(3, .int x1), (2, .int 0), (0, .ref (G.2.2.1 k)), (1, .int a1)]) hx hb dJ7_fill_53178_4 rfl hl (by decide) rfl (fun ls hl => ?_)
  have LPL2 : ∀ (kL2 : Int32 → gSt → gO), (∀ (l2_2 : Int32) (σL2 : gSt) (H : Heap) (locs : List Loc) (ls : Array Slot), kL2 l2_2 σL2 = some (r, σ') → gW G σL2 H → va_S (gA G) s.heap H locs → lv_has ls 4 [(3, .int x1), (2, .int l2_2), (0, .ref (G.2.2.1 k)), (1, .int a1)] → W p l e (gRm 0 0) s m ([.ref (G.2.2.1 k), .int a1].toArray) below meth c H locs 0 0 (MQ below (gQv G σ') ([.ref (G.2.2.1 k), .int a1].toArray) s 0 0 (gA G)) (F0 m 20 ls [])) → ∀ (nL2 : Nat) (l2_2 : Int32) (σL2 : gSt) (H : Heap) (locs : List Loc) (ls : Array Slot), L2_J7_fill_53178 k n x1 a1 nL2 l2_2 σL2 kL2 = some (r, σ') → gW G σL2 H → va_S (gA G) s.heap H locs → lv_has ls 4 [(3, .int x1), (2, .int l2_2), (0, .ref (G.2.2.1 k)), (1, .int a1)] → W p l e (gRm 0 0) s m ([.ref (G.2.2.1 k), .int a1].toArray) below meth c H locs 0 0 (MQ below (gQv G σ') ([.ref (G.2.2.1 k), .int a1].toArray) s 0 0 (gA G)) (F0 m 5 ls []) := by
    intro kL2 hKL2 nL2
    induction nL2 with
    | zero =>
      intro l2_2 σL2 H locs ls h
      cases h
    | succ nL2 ihL2 =>
      intro l2_2 σL2 H locs ls h hP hS hl
      rw [L2_J7_fill_53178] at h
      refine lv_iload_n hx hb dJ7_fill_53178_5 rfl (lv_at hl 1 rfl) ?_
      refine lv_iload_n hx hb dJ7_fill_53178_6 rfl (lv_at hl 0 rfl) ?_
      refine lv_icmp_ge (tgt := 20) hx hb dJ7_fill_53178_7 (by decide) (fun c3 => ?_) (fun c3 => ?_)
      · have h := g_ift c3 h
        exact hKL2 _ _ _ _ _ h hP hS (lv_sub hl [0, 1, 2, 3] rfl)
      · have h := g_iff c3 h
        refine lv_aload_n hx hb dJ7_fill_53178_10 rfl (lv_at hl 2 rfl) ?_
        refine lv_iload_n hx hb dJ7_fill_53178_11 rfl (lv_at hl 1 rfl) ?_
        refine lv_iload_n hx hb dJ7_fill_53178_12 rfl (lv_at hl 3 rfl) ?_
        obtain ⟨i4, h⟩ := g_ix h
        refine g_iast hx hb hE hP hS hk hL hz i4 dJ7_fill_53178_13 (fun H locs σ5 eσ5 hP hS => ?_)
        have h := g_nm eσ5 h
        obtain ⟨x6, ex6⟩ : ∃ y : Int32, y = l2_2 + 1 := ⟨_, rfl⟩
        have h := g_nm ex6 h
        refine lv_iinc (v := x6) (lv' := [(2, .int x6), (3, .int x1), (0, .ref (G.2.2.1 k)), (1, .int a1)]) hx hb dJ7_fill_53178_14 hl (k := 1) rfl (by rw [ex6]; rfl) (by decide) rfl (fun ls hl => ?_)
        refine lv_goto (tgt := 5) hx hb dJ7_fill_53178_17 (by decide) ?_
        exact ihL2 _ _ _ _ _ h hP hS (lv_sub hl [1, 0, 2, 3] rfl)
  refine LPL2 _ (fun z7 σ8 H locs ls h hP hS hl => ?_) gFu _ _ _ _ _ h hP hS (lv_sub hl [0, 1, 2, 3] rfl)
  exact g_vret (v := 0) (r := r) hx hb hr hlk hE hP hS h dJ7_fill_53178_20

def M_X8_isMissing (j : Nat) (σ : gSt) : gO :=
  if (σ (93 + j) 0) = 0 then (some (1, σ)) else (some (0, σ))
set_option maxHeartbeats 4000000 in
set_option maxRecDepth 100000 in
theorem c_X8_isMissing (l : Launch) (G : gPar) (j : Nat) (hj : j < 4) (σ : gSt) {r : Int32} {σ' : gSt} (h : M_X8_isMissing j σ = some (r, σ')) : gC l G yX8_isMissing cX8_isMissing 1 (some .boolean) 0 0 [.ref (G.2.2.1 (93 + j))] σ r σ' := by
  refine gC_of (by decide) (Nat.le_of_ble_eq_true rfl) ?_
  intro p e s m below meth c hx hb hr ht hown hlk hml hE hP ls hl
  have hS : va_S (gA G) s.heap s.heap [] := va_S.rf
  have hl : lv_has ls 1 [(0, .ref (G.2.2.1 (93 + j)))] := hl
  unfold M_X8_isMissing at h
  refine lv_aload_n hx hb dX8_isMissing_0 rfl (lv_at hl 0 rfl) ?_
  refine g_get hx hb ht hown hE hP (show 93 + j < 110 by omega) (gE_sheet hj) uX8 rfl 0 (by decide) m_316 rfl rfl dX8_isMissing_1 ?_
  refine lv_if_ne (tgt := 11) hx hb dX8_isMissing_4 (by decide) (fun c1 => ?_) (fun c1 => ?_)
  · have h := g_iff c1 h
    refine lv_iconst (v := 0) hx hb dX8_isMissing_11 (by decide) ?_
    exact g_zret hx hb hr hlk hE hP hS (by decide) h dX8_isMissing_12
  · have h := g_ift c1 h
    refine lv_iconst (v := 1) hx hb dX8_isMissing_7 (by decide) ?_
    refine lv_goto (tgt := 12) hx hb dX8_isMissing_8 (by decide) ?_
    exact g_zret hx hb hr hlk hE hP hS (by decide) h dX8_isMissing_12

def M_X8_lay (j : Nat) (a1 a2 : Int32) (σ : gSt) : gO :=
  gNm (gUp σ (93 + j) 0 a1) (fun σ1 => gNm (gUp σ1 (93 + j) 1 a2) (fun σ2 => gBd (M_J7_fill_53178 (97 + j) 60 0 σ2) (fun r4 σ3 => some (0, σ3))))
set_option maxHeartbeats 4000000 in
set_option maxRecDepth 100000 in
theorem c_X8_lay (l : Launch) (G : gPar) (j : Nat) (hj : j < 4) (a1 a2 : Int32) (σ : gSt) {r : Int32} {σ' : gSt} (h : M_X8_lay j a1 a2 σ = some (r, σ')) : gV l G yX8_lay cX8_lay 3 1 23 [.ref (G.2.2.1 (93 + j)), .int a1, .int a2] σ σ' := by
  refine gV_of (by decide) (Nat.le_of_ble_eq_true rfl) ?_
  intro p e s m below meth c hx hb hr ht hown hlk hml hE hP ls hl
  have hS : va_S (gA G) s.heap s.heap [] := va_S.rf
  have hl : lv_has ls 3 [(0, .ref (G.2.2.1 (93 + j))), (1, .int a1), (2, .int a2)] := hl
  unfold M_X8_lay at h
  refine lv_aload_n hx hb dX8_lay_0 rfl (lv_at hl 0 rfl) ?_
  refine lv_iload_n hx hb dX8_lay_1 rfl (lv_at hl 1 rfl) ?_
  refine g_put hx hb ht hown hE hP hS (show 93 + j < 110 by omega) (gE_sheet hj) uX8 tyX8_ok nmX8 rfl 0 (by decide) m_316 rfl rfl rfl rfl rfl (Nat.le_of_ble_eq_true rfl) (gE_sheet hj) dX8_lay_2 (fun H locs σ1 eσ1 hP hS => ?_)
  have h := g_nm eσ1 h
  refine lv_aload_n hx hb dX8_lay_5 rfl (lv_at hl 0 rfl) ?_
  refine lv_iload_n hx hb dX8_lay_6 rfl (lv_at hl 2 rfl) ?_
  refine g_put hx hb ht hown hE hP hS (show 93 + j < 110 by omega) (gE_sheet hj) uX8 tyX8_ok nmX8 rfl 1 (by decide) m_318 rfl rfl rfl rfl rfl (Nat.le_of_ble_eq_true rfl) (gE_sheet hj) dX8_lay_7 (fun H locs σ2 eσ2 hP hS => ?_)
  have h := g_nm eσ2 h
  refine lv_aload_n hx hb dX8_lay_10 rfl (lv_at hl 0 rfl) ?_
  refine g_get hx hb ht hown hE hP (show 93 + j < 110 by omega) (gE_sheet hj) uX8 rfl 2 (by decide) m_321 rfl rfl dX8_lay_11 ?_
  refine lv_iconst (v := 0) hx hb dX8_lay_14 (by decide) ?_
  obtain ⟨r4, σ3, hcr4, h⟩ := g_bd h
  refine g_callSv (As := [.ref (G.2.2.1 (97 + j)), .int 0]) (n := 2) hx hb hml hown ht (c_J7_fill_53178 l G (97 + j) 60 (show 97 + j < 110 by omega) (gL_num hj) (by decide) _ _ hcr4) m_697 m_698 m_44 m_699 (by decide +kernel) hE hP hS (fun _ h => h) (fun _ _ h => h) rfl hl.1 rfl (Nat.le_of_ble_eq_true rfl) dX8_lay_15 ⟨by decide, by decide⟩ ⟨Nat.zero_le _, Nat.zero_le _⟩ (fun H locs hP hS => ?_)
  exact g_vret (v := 0) (r := r) hx hb hr hlk hE hP hS h dX8_lay_18

def M_X8_write (j : Nat) (a1 a2 : Int32) (σ : gSt) : gO :=
  gNm (((32 : Int32) - (σ (93 + j) 0)) : Int32) (fun x1 => gIx 60 a1 (gNm (gUp σ (97 + j) a1.toNatClampNeg ((a2 <<< (x1 &&& 31)) >>> (x1 &&& 31))) (fun σ3 => some (0, σ3))))
set_option maxHeartbeats 4000000 in
set_option maxRecDepth 100000 in
theorem c_X8_write (l : Launch) (G : gPar) (j : Nat) (hj : j < 4) (a1 a2 : Int32) (σ : gSt) {r : Int32} {σ' : gSt} (h : M_X8_write j a1 a2 σ = some (r, σ')) : gV l G yX8_write cX8_write 4 0 0 [.ref (G.2.2.1 (93 + j)), .int a1, .int a2] σ σ' := by
  refine gV_of (by decide) (Nat.le_of_ble_eq_true rfl) ?_
  intro p e s m below meth c hx hb hr ht hown hlk hml hE hP ls hl
  have hS : va_S (gA G) s.heap s.heap [] := va_S.rf
  have hl : lv_has ls 4 [(0, .ref (G.2.2.1 (93 + j))), (1, .int a1), (2, .int a2)] := hl
  unfold M_X8_write at h
  refine lv_bipush (v := 32) hx hb dX8_write_0 (by decide) ?_
  refine lv_aload_n hx hb dX8_write_2 rfl (lv_at hl 0 rfl) ?_
  refine g_get hx hb ht hown hE hP (show 93 + j < 110 by omega) (gE_sheet hj) uX8 rfl 0 (by decide) m_316 rfl rfl dX8_write_3 ?_
  refine lv_isub hx hb dX8_write_6 ?_
  refine lv_topi (fun x1 ex1 => ?_)
  have h := g_nm ex1 h
  refine lv_istore_n (lv' := [(3, .int x1), (0, .ref (G.2.2.1 (93 + j))), (1, .int a1), (2, .int a2)]) hx hb dX8_write_7 rfl hl (by decide) rfl (fun ls hl => ?_)
  refine lv_aload_n hx hb dX8_write_8 rfl (lv_at hl 1 rfl) ?_
  refine g_get hx hb ht hown hE hP (show 93 + j < 110 by omega) (gE_sheet hj) uX8 rfl 2 (by decide) m_321 rfl rfl dX8_write_9 ?_
  refine lv_iload_n hx hb dX8_write_12 rfl (lv_at hl 2 rfl) ?_
  refine lv_iload_n hx hb dX8_write_13 rfl (lv_at hl 3 rfl) ?_
  refine lv_iload_n hx hb dX8_write_14 rfl (lv_at hl 0 rfl) ?_
  refine lv_ishl hx hb dX8_write_15 ?_
  refine lv_iload_n hx hb dX8_write_16 rfl (lv_at hl 0 rfl) ?_
  refine lv_ishr hx hb dX8_write_17 ?_
  obtain ⟨i2, h⟩ := g_ix h
  refine g_iast hx hb hE hP hS (show 97 + j < 110 by omega) (gL_num hj) (by decide) i2 dX8_write_18 (fun H locs σ3 eσ3 hP hS => ?_)
  have h := g_nm eσ3 h
  exact g_vret (v := 0) (r := r) hx hb hr hlk hE hP hS h dX8_write_19

def M_X8_hasRun (j : Nat) (a1 a2 : Int32) (σ : gSt) : gO :=
  if a1 < 0 then (some (0, σ)) else (if a2 < 0 then (some (0, σ)) else (if (σ (93 + j) 1) < a2 then (some (0, σ)) else (if ((σ (93 + j) 1) - a2) < a1 then (some (0, σ)) else (some (1, σ)))))
set_option maxHeartbeats 4000000 in
set_option maxRecDepth 100000 in
theorem c_X8_hasRun (l : Launch) (G : gPar) (j : Nat) (hj : j < 4) (a1 a2 : Int32) (σ : gSt) {r : Int32} {σ' : gSt} (h : M_X8_hasRun j a1 a2 σ = some (r, σ')) : gC l G yX8_hasRun cX8_hasRun 3 (some .boolean) 0 0 [.ref (G.2.2.1 (93 + j)), .int a1, .int a2] σ r σ' := by
  refine gC_of (by decide) (Nat.le_of_ble_eq_true rfl) ?_
  intro p e s m below meth c hx hb hr ht hown hlk hml hE hP ls hl
  have hS : va_S (gA G) s.heap s.heap [] := va_S.rf
  have hl : lv_has ls 3 [(0, .ref (G.2.2.1 (93 + j))), (1, .int a1), (2, .int a2)] := hl
  unfold M_X8_hasRun at h
  refine lv_iload_n hx hb dX8_hasRun_0 rfl (lv_at hl 1 rfl) ?_
  refine lv_if_lt (tgt := 30) hx hb dX8_hasRun_1 (by decide) (fun c1 => ?_) (fun c1 => ?_)
  · have h := g_ift c1 h
    refine lv_iconst (v := 0) hx hb dX8_hasRun_30 (by decide) ?_
    exact g_zret hx hb hr hlk hE hP hS (by decide) h dX8_hasRun_31
  · have h := g_iff c1 h
    refine lv_iload_n hx hb dX8_hasRun_4 rfl (lv_at hl 2 rfl) ?_
    refine lv_if_lt (tgt := 30) hx hb dX8_hasRun_5 (by decide) (fun c2 => ?_) (fun c2 => ?_)
    · have h := g_ift c2 h
      refine lv_iconst (v := 0) hx hb dX8_hasRun_30 (by decide) ?_
      exact g_zret hx hb hr hlk hE hP hS (by decide) h dX8_hasRun_31
    · have h := g_iff c2 h
      refine lv_iload_n hx hb dX8_hasRun_8 rfl (lv_at hl 2 rfl) ?_
      refine lv_aload_n hx hb dX8_hasRun_9 rfl (lv_at hl 0 rfl) ?_
      refine g_get hx hb ht hown hE hP (show 93 + j < 110 by omega) (gE_sheet hj) uX8 rfl 1 (by decide) m_318 rfl rfl dX8_hasRun_10 ?_
      refine lv_icmp_gt (tgt := 30) hx hb dX8_hasRun_13 (by decide) (fun c3 => ?_) (fun c3 => ?_)
      · have h := g_ift c3 h
        refine lv_iconst (v := 0) hx hb dX8_hasRun_30 (by decide) ?_
        exact g_zret hx hb hr hlk hE hP hS (by decide) h dX8_hasRun_31
      · have h := g_iff c3 h
        refine lv_iload_n hx hb dX8_hasRun_16 rfl (lv_at hl 1 rfl) ?_
        refine lv_aload_n hx hb dX8_hasRun_17 rfl (lv_at hl 0 rfl) ?_
        refine g_get hx hb ht hown hE hP (show 93 + j < 110 by omega) (gE_sheet hj) uX8 rfl 1 (by decide) m_318 rfl rfl dX8_hasRun_18 ?_
        refine lv_iload_n hx hb dX8_hasRun_21 rfl (lv_at hl 2 rfl) ?_
        refine lv_isub hx hb dX8_hasRun_22 ?_
        refine lv_icmp_gt (tgt := 30) hx hb dX8_hasRun_23 (by decide) (fun c4 => ?_) (fun c4 => ?_)
        · have h := g_ift c4 h
          refine lv_iconst (v := 0) hx hb dX8_hasRun_30 (by decide) ?_
          exact g_zret hx hb hr hlk hE hP hS (by decide) h dX8_hasRun_31
        · have h := g_iff c4 h
          refine lv_iconst (v := 1) hx hb dX8_hasRun_26 (by decide) ?_
          refine lv_goto (tgt := 31) hx hb dX8_hasRun_27 (by decide) ?_
          exact g_zret hx hb hr hlk hE hP hS (by decide) h dX8_hasRun_31
