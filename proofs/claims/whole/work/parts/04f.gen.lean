def M_X9_order (a1 a2 a3 a4 : Int32) (σ : gSt) : gO :=
  gBd (M_X5_has a1 σ) (fun r2 σ1 => if r2 = 0 then (gBd (M_X9_finding (-100001) σ1) (fun r5 σ4 => some (r5, σ4))) else (gBd (M_X4_has a2 σ1) (fun r7 σ6 => if r7 = 0 then (gBd (M_X9_finding (-100001) σ6) (fun r10 σ9 => some (r10, σ9))) else (gBd (M_X4_has a3 σ6) (fun r12 σ11 => if r12 = 0 then (gBd (M_X9_finding (-100001) σ11) (fun r15 σ14 => some (r15, σ14))) else (gBd (M_X9_isDay a4 σ11) (fun r17 σ16 => if r17 = 0 then (gBd (M_X9_finding (-100001) σ16) (fun r30 σ29 => some (r30, σ29))) else (if a2 = a3 then (gBd (M_X9_finding (-100003) σ16) (fun r28 σ27 => some (r28, σ27))) else (if (σ16 31 0) < 20 then (gIx 6 a2 (gIx 6 a3 (gBd (M_X3_add a1 a2 a3 a4 ((4 : Int32) * (σ16 (5 + a2.toNatClampNeg) a3.toNatClampNeg)) σ16) (fun r24 σ23 => some (r24, σ23))))) else (gBd (M_X9_finding (-100005) σ16) (fun r26 σ25 => some (r26, σ25))))))))))))
set_option maxHeartbeats 4000000 in
set_option maxRecDepth 100000 in
theorem c_X9_order (l : Launch) (G : gPar) (a1 a2 a3 a4 : Int32) (σ : gSt) {r : Int32} {σ' : gSt} (h : M_X9_order a1 a2 a3 a4 σ = some (r, σ')) : gC l G yX9_order cX9_order 5 (some .int) 2 42 [.ref (G.2.2.1 0), .int a1, .int a2, .int a3, .int a4] σ r σ' := by
  refine gC_of (by decide) (Nat.le_of_ble_eq_true rfl) ?_
  intro p e s m below meth c hx hb hr ht hown hlk hml hE hP ls hl
  have hS : va_S (gA G) s.heap s.heap [] := va_S.rf
  have hl : lv_has ls 5 [(0, .ref (G.2.2.1 0)), (1, .int a1), (2, .int a2), (3, .int a3), (4, .int a4)] := hl
  unfold M_X9_order at h
  refine lv_aload_n hx hb dX9_order_0 rfl (lv_at hl 0 rfl) ?_
  refine g_get hx hb ht hown hE hP (by decide) gE_0 uX9 rfl 0 (by decide) m_331 rfl rfl dX9_order_1 ?_
  refine g_get hx hb ht hown hE hP (by decide) gE_1 uX0 rfl 1 (by decide) m_249 rfl rfl dX9_order_4 ?_
  refine lv_iload_n hx hb dX9_order_7 rfl (lv_at hl 1 rfl) ?_
  obtain ⟨r2, σ1, hcr2, h⟩ := g_bd h
  refine g_callV (As := [.int a1]) (n := 1) hx hb hml hown ht (c_X5_has l G _ _ hcr2) m_395 m_396 m_397 m_34 m_398 (by decide +kernel) (by decide) gE_11 rfl hE hP hS (fun _ h => h) (fun _ _ h => h) rfl hl.1 rfl (Nat.le_of_ble_eq_true rfl) dX9_order_8 ⟨by decide, by decide⟩ ⟨Nat.zero_le _, Nat.zero_le _⟩ (fun H locs hP hS => ?_)
  refine lv_if_eq (tgt := 50) hx hb dX9_order_11 (by decide) (fun c3 => ?_) (fun c3 => ?_)
  · have h := g_ift c3 h
    refine lv_aload_n hx hb dX9_order_50 rfl (lv_at hl 0 rfl) ?_
    refine lv_ldc hx hb hown (ht _ m_357) dX9_order_51 ?_
    obtain ⟨r5, σ4, hcr5, h⟩ := g_bd h
    refine g_callV (As := [.int (-100001)]) (n := 1) hx hb hml hown ht (c_X9_finding l G _ _ hcr5) m_358 m_360 m_0 m_31 m_361 (by decide +kernel) (by decide) gE_0 rfl hE hP hS (fun _ h => h) (fun _ _ h => h) rfl hl.1 rfl (Nat.le_of_ble_eq_true rfl) dX9_order_53 ⟨by decide, by decide⟩ ⟨Nat.zero_le _, Nat.zero_le _⟩ (fun H locs hP hS => ?_)
    exact g_iret hx hb hr hlk hE hP hS h dX9_order_56
  · have h := g_iff c3 h
    refine lv_aload_n hx hb dX9_order_14 rfl (lv_at hl 0 rfl) ?_
    refine g_get hx hb ht hown hE hP (by decide) gE_0 uX9 rfl 0 (by decide) m_331 rfl rfl dX9_order_15 ?_
    refine g_get hx hb ht hown hE hP (by decide) gE_1 uX0 rfl 0 (by decide) m_247 rfl rfl dX9_order_18 ?_
    refine lv_iload_n hx hb dX9_order_21 rfl (lv_at hl 2 rfl) ?_
    obtain ⟨r7, σ6, hcr7, h⟩ := g_bd h
    refine g_callV (As := [.int a2]) (n := 1) hx hb hml hown ht (c_X4_has l G _ _ hcr7) m_371 m_372 m_373 m_33 m_374 (by decide +kernel) (by decide) gE_2 rfl hE hP hS (fun _ h => h) (fun _ _ h => h) rfl hl.1 rfl (Nat.le_of_ble_eq_true rfl) dX9_order_22 ⟨by decide, by decide⟩ ⟨Nat.zero_le _, Nat.zero_le _⟩ (fun H locs hP hS => ?_)
    refine lv_if_eq (tgt := 50) hx hb dX9_order_25 (by decide) (fun c8 => ?_) (fun c8 => ?_)
    · have h := g_ift c8 h
      refine lv_aload_n hx hb dX9_order_50 rfl (lv_at hl 0 rfl) ?_
      refine lv_ldc hx hb hown (ht _ m_357) dX9_order_51 ?_
      obtain ⟨r10, σ9, hcr10, h⟩ := g_bd h
      refine g_callV (As := [.int (-100001)]) (n := 1) hx hb hml hown ht (c_X9_finding l G _ _ hcr10) m_358 m_360 m_0 m_31 m_361 (by decide +kernel) (by decide) gE_0 rfl hE hP hS (fun _ h => h) (fun _ _ h => h) rfl hl.1 rfl (Nat.le_of_ble_eq_true rfl) dX9_order_53 ⟨by decide, by decide⟩ ⟨Nat.zero_le _, Nat.zero_le _⟩ (fun H locs hP hS => ?_)
      exact g_iret hx hb hr hlk hE hP hS h dX9_order_56
    · have h := g_iff c8 h
      refine lv_aload_n hx hb dX9_order_28 rfl (lv_at hl 0 rfl) ?_
      refine g_get hx hb ht hown hE hP (by decide) gE_0 uX9 rfl 0 (by decide) m_331 rfl rfl dX9_order_29 ?_
      refine g_get hx hb ht hown hE hP (by decide) gE_1 uX0 rfl 0 (by decide) m_247 rfl rfl dX9_order_32 ?_
      refine lv_iload_n hx hb dX9_order_35 rfl (lv_at hl 3 rfl) ?_
      obtain ⟨r12, σ11, hcr12, h⟩ := g_bd h
      refine g_callV (As := [.int a3]) (n := 1) hx hb hml hown ht (c_X4_has l G _ _ hcr12) m_371 m_372 m_373 m_33 m_374 (by decide +kernel) (by decide) gE_2 rfl hE hP hS (fun _ h => h) (fun _ _ h => h) rfl hl.1 rfl (Nat.le_of_ble_eq_true rfl) dX9_order_36 ⟨by decide, by decide⟩ ⟨Nat.zero_le _, Nat.zero_le _⟩ (fun H locs hP hS => ?_)
      refine lv_if_eq (tgt := 50) hx hb dX9_order_39 (by decide) (fun c13 => ?_) (fun c13 => ?_)
      · have h := g_ift c13 h
        refine lv_aload_n hx hb dX9_order_50 rfl (lv_at hl 0 rfl) ?_
        refine lv_ldc hx hb hown (ht _ m_357) dX9_order_51 ?_
        obtain ⟨r15, σ14, hcr15, h⟩ := g_bd h
        refine g_callV (As := [.int (-100001)]) (n := 1) hx hb hml hown ht (c_X9_finding l G _ _ hcr15) m_358 m_360 m_0 m_31 m_361 (by decide +kernel) (by decide) gE_0 rfl hE hP hS (fun _ h => h) (fun _ _ h => h) rfl hl.1 rfl (Nat.le_of_ble_eq_true rfl) dX9_order_53 ⟨by decide, by decide⟩ ⟨Nat.zero_le _, Nat.zero_le _⟩ (fun H locs hP hS => ?_)
        exact g_iret hx hb hr hlk hE hP hS h dX9_order_56
      · have h := g_iff c13 h
        refine lv_iload hx hb dX9_order_42 (lv_at hl 4 rfl) ?_
        obtain ⟨r17, σ16, hcr17, h⟩ := g_bd h
        refine g_callS (As := [.int a4]) (n := 1) hx hb hml hown ht (c_X9_isDay l G _ _ hcr17) m_380 m_381 m_31 m_382 (by decide +kernel) hE hP hS (fun _ h => h) (fun _ _ h => h) rfl hl.1 rfl (Nat.le_of_ble_eq_true rfl) dX9_order_44 ⟨by decide, by decide⟩ ⟨Nat.zero_le _, Nat.zero_le _⟩ (fun H locs hP hS => ?_)
        refine lv_if_ne (tgt := 57) hx hb dX9_order_47 (by decide) (fun c18 => ?_) (fun c18 => ?_)
        · have h := g_iff c18 h
          refine lv_iload_n hx hb dX9_order_57 rfl (lv_at hl 2 rfl) ?_
          refine lv_iload_n hx hb dX9_order_58 rfl (lv_at hl 3 rfl) ?_
          refine lv_icmp_ne (tgt := 69) hx hb dX9_order_59 (by decide) (fun c19 => ?_) (fun c19 => ?_)
          · have h := g_iff c19 h
            refine lv_aload_n hx hb dX9_order_69 rfl (lv_at hl 0 rfl) ?_
            refine g_get hx hb ht hown hE hP (by decide) gE_0 uX9 rfl 0 (by decide) m_331 rfl rfl dX9_order_70 ?_
            refine g_get hx hb ht hown hE hP (by decide) gE_1 uX0 rfl 4 (by decide) m_258 rfl rfl dX9_order_73 ?_
            refine g_get hx hb ht hown hE hP (by decide) gE_31 uX3 rfl 0 (by decide) m_191 rfl rfl dX9_order_76 ?_
            refine lv_bipush (v := 20) hx hb dX9_order_79 (by decide) ?_
            refine lv_icmp_lt (tgt := 91) hx hb dX9_order_81 (by decide) (fun c20 => ?_) (fun c20 => ?_)
            · have h := g_ift c20 h
              refine lv_aload_n hx hb dX9_order_91 rfl (lv_at hl 0 rfl) ?_
              refine g_get hx hb ht hown hE hP (by decide) gE_0 uX9 rfl 0 (by decide) m_331 rfl rfl dX9_order_92 ?_
              refine g_get hx hb ht hown hE hP (by decide) gE_1 uX0 rfl 4 (by decide) m_258 rfl rfl dX9_order_95 ?_
              refine lv_iload_n hx hb dX9_order_98 rfl (lv_at hl 1 rfl) ?_
              refine lv_iload_n hx hb dX9_order_99 rfl (lv_at hl 2 rfl) ?_
              refine lv_iload_n hx hb dX9_order_100 rfl (lv_at hl 3 rfl) ?_
              refine lv_iload hx hb dX9_order_101 (lv_at hl 4 rfl) ?_
              refine lv_iconst (v := 4) hx hb dX9_order_103 (by decide) ?_
              refine lv_aload_n hx hb dX9_order_104 rfl (lv_at hl 0 rfl) ?_
              refine g_get hx hb ht hown hE hP (by decide) gE_0 uX9 rfl 0 (by decide) m_331 rfl rfl dX9_order_105 ?_
              refine g_get hx hb ht hown hE hP (by decide) gE_1 uX0 rfl 0 (by decide) m_247 rfl rfl dX9_order_108 ?_
              refine g_get hx hb ht hown hE hP (by decide) gE_2 uX4 rfl 2 (by decide) m_72 rfl rfl dX9_order_111 ?_
              refine lv_iload_n hx hb dX9_order_114 rfl (lv_at hl 2 rfl) ?_
              obtain ⟨i21, h⟩ := g_ix h
              have ji21 := g_lt i21
              refine g_aald hx hb hE hP 1 (by decide) rfl rfl rfl i21 dX9_order_115 ?_
              refine lv_iload_n hx hb dX9_order_116 rfl (lv_at hl 3 rfl) ?_
              obtain ⟨i22, h⟩ := g_ix h
              refine g_iald hx hb hE hP (show 5 + a2.toNatClampNeg < 110 by omega) (gL_mile ji21) (by decide) i22 dX9_order_117 ?_
              refine lv_imul hx hb dX9_order_118 ?_
              obtain ⟨r24, σ23, hcr24, h⟩ := g_bd h
              refine g_callV (As := [.int a1, .int a2, .int a3, .int a4, .int ((4 : Int32) * (σ16 (5 + a2.toNatClampNeg) a3.toNatClampNeg))]) (n := 5) hx hb hml hown ht (c_X3_add l G _ _ _ _ _ _ hcr24) m_597 m_598 m_599 m_37 m_600 (by decide +kernel) (by decide) gE_31 rfl hE hP hS (fun _ h => h) (fun _ _ h => h) rfl hl.1 rfl (Nat.le_of_ble_eq_true rfl) dX9_order_119 ⟨by decide, by decide⟩ ⟨Nat.zero_le _, Nat.zero_le _⟩ (fun H locs hP hS => ?_)
              exact g_iret hx hb hr hlk hE hP hS h dX9_order_122
            · have h := g_iff c20 h
              refine lv_aload_n hx hb dX9_order_84 rfl (lv_at hl 0 rfl) ?_
              refine lv_ldc hx hb hown (ht _ m_362) dX9_order_85 ?_
              obtain ⟨r26, σ25, hcr26, h⟩ := g_bd h
              refine g_callV (As := [.int (-100005)]) (n := 1) hx hb hml hown ht (c_X9_finding l G _ _ hcr26) m_358 m_360 m_0 m_31 m_361 (by decide +kernel) (by decide) gE_0 rfl hE hP hS (fun _ h => h) (fun _ _ h => h) rfl hl.1 rfl (Nat.le_of_ble_eq_true rfl) dX9_order_87 ⟨by decide, by decide⟩ ⟨Nat.zero_le _, Nat.zero_le _⟩ (fun H locs hP hS => ?_)
              exact g_iret hx hb hr hlk hE hP hS h dX9_order_90
          · have h := g_ift c19 h
            refine lv_aload_n hx hb dX9_order_62 rfl (lv_at hl 0 rfl) ?_
            refine lv_ldc hx hb hown (ht _ m_375) dX9_order_63 ?_
            obtain ⟨r28, σ27, hcr28, h⟩ := g_bd h
            refine g_callV (As := [.int (-100003)]) (n := 1) hx hb hml hown ht (c_X9_finding l G _ _ hcr28) m_358 m_360 m_0 m_31 m_361 (by decide +kernel) (by decide) gE_0 rfl hE hP hS (fun _ h => h) (fun _ _ h => h) rfl hl.1 rfl (Nat.le_of_ble_eq_true rfl) dX9_order_65 ⟨by decide, by decide⟩ ⟨Nat.zero_le _, Nat.zero_le _⟩ (fun H locs hP hS => ?_)
            exact g_iret hx hb hr hlk hE hP hS h dX9_order_68
        · have h := g_ift c18 h
          refine lv_aload_n hx hb dX9_order_50 rfl (lv_at hl 0 rfl) ?_
          refine lv_ldc hx hb hown (ht _ m_357) dX9_order_51 ?_
          obtain ⟨r30, σ29, hcr30, h⟩ := g_bd h
          refine g_callV (As := [.int (-100001)]) (n := 1) hx hb hml hown ht (c_X9_finding l G _ _ hcr30) m_358 m_360 m_0 m_31 m_361 (by decide +kernel) (by decide) gE_0 rfl hE hP hS (fun _ h => h) (fun _ _ h => h) rfl hl.1 rfl (Nat.le_of_ble_eq_true rfl) dX9_order_53 ⟨by decide, by decide⟩ ⟨Nat.zero_le _, Nat.zero_le _⟩ (fun H locs hP hS => ?_)
          exact g_iret hx hb hr hlk hE hP hS h dX9_order_56

def M_X9_appeal (a1 a2 : Int32) (σ : gSt) : gO :=
  gBd (M_X3_has a1 σ) (fun r2 σ1 => if r2 = 0 then (gBd (M_X9_finding (-100001) σ1) (fun r5 σ4 => some (r5, σ4))) else (gBd (M_X9_isDay a2 σ1) (fun r7 σ6 => if r7 = 0 then (gBd (M_X9_finding (-100001) σ6) (fun r35 σ34 => some (r35, σ34))) else (gIx 20 a1 (if (σ6 37 a1.toNatClampNeg) = 0 then (gIx 20 a1 (gNm ((σ6 35 a1.toNatClampNeg) : Int32) (fun x12 => if a2 < x12 then (gBd (M_X9_finding (-100008) σ6) (fun r15 σ14 => some (r15, σ14))) else (if (a2 - x12) ≤ (σ6 1 6) then (gIx 20 a1 (gBd (M_X7_settlementOf (σ6 32 a1.toNatClampNeg) x12 a2 σ6) (fun r19 σ18 => gIx 20 a1 (if r19 = (σ18 34 a1.toNatClampNeg) then (gIx 20 a1 (gNm (gUp σ18 37 a1.toNatClampNeg 1) (fun σ28 => some (0, σ28)))) else (gIx 20 a1 (gNm (gUp σ18 37 a1.toNatClampNeg 2) (fun σ24 => some (1, σ24)))))))) else (gBd (M_X9_finding (-100008) σ6) (fun r31 σ30 => some (r31, σ30))))))) else (gBd (M_X9_finding (-100004) σ6) (fun r33 σ32 => some (r33, σ32))))))))
set_option maxHeartbeats 4000000 in
set_option maxRecDepth 100000 in
theorem c_X9_appeal (l : Launch) (G : gPar) (a1 a2 : Int32) (σ : gSt) {r : Int32} {σ' : gSt} (h : M_X9_appeal a1 a2 σ = some (r, σ')) : gC l G yX9_appeal cX9_appeal 6 (some .int) 5 122 [.ref (G.2.2.1 0), .int a1, .int a2] σ r σ' := by
  refine gC_of (by decide) (Nat.le_of_ble_eq_true rfl) ?_
  intro p e s m below meth c hx hb hr ht hown hlk hml hE hP ls hl
  have hS : va_S (gA G) s.heap s.heap [] := va_S.rf
  have hl : lv_has ls 6 [(0, .ref (G.2.2.1 0)), (1, .int a1), (2, .int a2)] := hl
  unfold M_X9_appeal at h
  refine lv_aload_n hx hb dX9_appeal_0 rfl (lv_at hl 0 rfl) ?_
  refine g_get hx hb ht hown hE hP (by decide) gE_0 uX9 rfl 0 (by decide) m_331 rfl rfl dX9_appeal_1 ?_
  refine g_get hx hb ht hown hE hP (by decide) gE_1 uX0 rfl 4 (by decide) m_258 rfl rfl dX9_appeal_4 ?_
  refine lv_iload_n hx hb dX9_appeal_7 rfl (lv_at hl 1 rfl) ?_
  obtain ⟨r2, σ1, hcr2, h⟩ := g_bd h
  refine g_callV (As := [.int a1]) (n := 1) hx hb hml hown ht (c_X3_has l G _ _ hcr2) m_605 m_606 m_607 m_37 m_608 (by decide +kernel) (by decide) gE_31 rfl hE hP hS (fun _ h => h) (fun _ _ h => h) rfl hl.1 rfl (Nat.le_of_ble_eq_true rfl) dX9_appeal_8 ⟨by decide, by decide⟩ ⟨Nat.zero_le _, Nat.zero_le _⟩ (fun H locs hP hS => ?_)
  refine lv_if_eq (tgt := 21) hx hb dX9_appeal_11 (by decide) (fun c3 => ?_) (fun c3 => ?_)
  · have h := g_ift c3 h
    refine lv_aload_n hx hb dX9_appeal_21 rfl (lv_at hl 0 rfl) ?_
    refine lv_ldc hx hb hown (ht _ m_357) dX9_appeal_22 ?_
    obtain ⟨r5, σ4, hcr5, h⟩ := g_bd h
    refine g_callV (As := [.int (-100001)]) (n := 1) hx hb hml hown ht (c_X9_finding l G _ _ hcr5) m_358 m_360 m_0 m_31 m_361 (by decide +kernel) (by decide) gE_0 rfl hE hP hS (fun _ h => h) (fun _ _ h => h) rfl hl.1 rfl (Nat.le_of_ble_eq_true rfl) dX9_appeal_24 ⟨by decide, by decide⟩ ⟨Nat.zero_le _, Nat.zero_le _⟩ (fun H locs hP hS => ?_)
    exact g_iret hx hb hr hlk hE hP hS h dX9_appeal_27
  · have h := g_iff c3 h
    refine lv_iload_n hx hb dX9_appeal_14 rfl (lv_at hl 2 rfl) ?_
    obtain ⟨r7, σ6, hcr7, h⟩ := g_bd h
    refine g_callS (As := [.int a2]) (n := 1) hx hb hml hown ht (c_X9_isDay l G _ _ hcr7) m_380 m_381 m_31 m_382 (by decide +kernel) hE hP hS (fun _ h => h) (fun _ _ h => h) rfl hl.1 rfl (Nat.le_of_ble_eq_true rfl) dX9_appeal_15 ⟨by decide, by decide⟩ ⟨Nat.zero_le _, Nat.zero_le _⟩ (fun H locs hP hS => ?_)
    refine lv_if_ne (tgt := 28) hx hb dX9_appeal_18 (by decide) (fun c8 => ?_) (fun c8 => ?_)
    · have h := g_iff c8 h
      refine lv_aload_n hx hb dX9_appeal_28 rfl (lv_at hl 0 rfl) ?_
      refine g_get hx hb ht hown hE hP (by decide) gE_0 uX9 rfl 0 (by decide) m_331 rfl rfl dX9_appeal_29 ?_
      refine g_get hx hb ht hown hE hP (by decide) gE_1 uX0 rfl 4 (by decide) m_258 rfl rfl dX9_appeal_32 ?_
      refine g_get hx hb ht hown hE hP (by decide) gE_31 uX3 rfl 6 (by decide) m_203 rfl rfl dX9_appeal_35 ?_
      refine lv_iload_n hx hb dX9_appeal_38 rfl (lv_at hl 1 rfl) ?_
      obtain ⟨i9, h⟩ := g_ix h
      refine g_iald hx hb hE hP (by decide) rfl (by decide) i9 dX9_appeal_39 ?_
      refine lv_if_eq (tgt := 50) hx hb dX9_appeal_40 (by decide) (fun c10 => ?_) (fun c10 => ?_)
      · have h := g_ift c10 h
        refine lv_aload_n hx hb dX9_appeal_50 rfl (lv_at hl 0 rfl) ?_
        refine g_get hx hb ht hown hE hP (by decide) gE_0 uX9 rfl 0 (by decide) m_331 rfl rfl dX9_appeal_51 ?_
        refine g_get hx hb ht hown hE hP (by decide) gE_1 uX0 rfl 4 (by decide) m_258 rfl rfl dX9_appeal_54 ?_
        refine g_get hx hb ht hown hE hP (by decide) gE_31 uX3 rfl 4 (by decide) m_199 rfl rfl dX9_appeal_57 ?_
        refine lv_iload_n hx hb dX9_appeal_60 rfl (lv_at hl 1 rfl) ?_
        obtain ⟨i11, h⟩ := g_ix h
        refine g_iald hx hb hE hP (by decide) rfl (by decide) i11 dX9_appeal_61 ?_
        refine lv_topi (fun x12 ex12 => ?_)
        have h := g_nm ex12 h
        refine lv_istore_n (lv' := [(3, .int x12), (0, .ref (G.2.2.1 0)), (1, .int a1), (2, .int a2)]) hx hb dX9_appeal_62 rfl hl (by decide) rfl (fun ls hl => ?_)
        refine lv_iload_n hx hb dX9_appeal_63 rfl (lv_at hl 3 rfl) ?_
        refine lv_iload_n hx hb dX9_appeal_64 rfl (lv_at hl 0 rfl) ?_
        refine lv_icmp_lt (tgt := 81) hx hb dX9_appeal_65 (by decide) (fun c13 => ?_) (fun c13 => ?_)
        · have h := g_ift c13 h
          refine lv_aload_n hx hb dX9_appeal_81 rfl (lv_at hl 1 rfl) ?_
          refine lv_ldc hx hb hown (ht _ m_609) dX9_appeal_82 ?_
          obtain ⟨r15, σ14, hcr15, h⟩ := g_bd h
          refine g_callV (As := [.int (-100008)]) (n := 1) hx hb hml hown ht (c_X9_finding l G _ _ hcr15) m_358 m_360 m_0 m_31 m_361 (by decide +kernel) (by decide) gE_0 rfl hE hP hS (fun _ h => h) (fun _ _ h => h) rfl hl.1 rfl (Nat.le_of_ble_eq_true rfl) dX9_appeal_84 ⟨by decide, by decide⟩ ⟨Nat.zero_le _, Nat.zero_le _⟩ (fun H locs hP hS => ?_)
          exact g_iret hx hb hr hlk hE hP hS h dX9_appeal_87
        · have h := g_iff c13 h
          refine lv_iload_n hx hb dX9_appeal_68 rfl (lv_at hl 3 rfl) ?_
          refine lv_iload_n hx hb dX9_appeal_69 rfl (lv_at hl 0 rfl) ?_
          refine lv_isub hx hb dX9_appeal_70 ?_
          refine lv_aload_n hx hb dX9_appeal_71 rfl (lv_at hl 1 rfl) ?_
          refine g_get hx hb ht hown hE hP (by decide) gE_0 uX9 rfl 0 (by decide) m_331 rfl rfl dX9_appeal_72 ?_
          refine g_get hx hb ht hown hE hP (by decide) gE_1 uX0 rfl 6 (by decide) m_262 rfl rfl dX9_appeal_75 ?_
          refine lv_icmp_le (tgt := 88) hx hb dX9_appeal_78 (by decide) (fun c16 => ?_) (fun c16 => ?_)
          · have h := g_ift c16 h
            refine lv_aload_n hx hb dX9_appeal_88 rfl (lv_at hl 1 rfl) ?_
            refine g_get hx hb ht hown hE hP (by decide) gE_0 uX9 rfl 2 (by decide) m_333 rfl rfl dX9_appeal_89 ?_
            refine lv_aload_n hx hb dX9_appeal_92 rfl (lv_at hl 1 rfl) ?_
            refine g_get hx hb ht hown hE hP (by decide) gE_0 uX9 rfl 0 (by decide) m_331 rfl rfl dX9_appeal_93 ?_
            refine g_get hx hb ht hown hE hP (by decide) gE_1 uX0 rfl 4 (by decide) m_258 rfl rfl dX9_appeal_96 ?_
            refine g_get hx hb ht hown hE hP (by decide) gE_31 uX3 rfl 1 (by decide) m_193 rfl rfl dX9_appeal_99 ?_
            refine lv_iload_n hx hb dX9_appeal_102 rfl (lv_at hl 2 rfl) ?_
            obtain ⟨i17, h⟩ := g_ix h
            refine g_iald hx hb hE hP (by decide) rfl (by decide) i17 dX9_appeal_103 ?_
            refine lv_iload_n hx hb dX9_appeal_104 rfl (lv_at hl 0 rfl) ?_
            refine lv_iload_n hx hb dX9_appeal_105 rfl (lv_at hl 3 rfl) ?_
            obtain ⟨r19, σ18, hcr19, h⟩ := g_bd h
            refine g_callV (As := [.int (σ6 32 a1.toNatClampNeg), .int x12, .int a2]) (n := 3) hx hb hml hown ht (c_X7_settlementOf l G _ _ _ _ hcr19) m_534 m_535 m_536 m_39 m_537 (by decide +kernel) (by decide) gE_85 rfl hE hP hS (fun _ h => h) (fun _ _ h => h) rfl hl.1 rfl (Nat.le_of_ble_eq_true rfl) dX9_appeal_106 ⟨by decide, by decide⟩ ⟨Nat.zero_le _, Nat.zero_le _⟩ (fun H locs hP hS => ?_)
            refine lv_istore (lv' := [(4, .int r19), (3, .int x12), (0, .ref (G.2.2.1 0)), (1, .int a1), (2, .int a2)]) hx hb dX9_appeal_109 hl (by decide) rfl (fun ls hl => ?_)
            refine lv_iload hx hb dX9_appeal_111 (lv_at hl 0 rfl) ?_
            refine lv_aload_n hx hb dX9_appeal_113 rfl (lv_at hl 2 rfl) ?_
            refine g_get hx hb ht hown hE hP (by decide) gE_0 uX9 rfl 0 (by decide) m_331 rfl rfl dX9_appeal_114 ?_
            refine g_get hx hb ht hown hE hP (by decide) gE_1 uX0 rfl 4 (by decide) m_258 rfl rfl dX9_appeal_117 ?_
            refine g_get hx hb ht hown hE hP (by decide) gE_31 uX3 rfl 3 (by decide) m_197 rfl rfl dX9_appeal_120 ?_
            refine lv_iload_n hx hb dX9_appeal_123 rfl (lv_at hl 3 rfl) ?_
            obtain ⟨i20, h⟩ := g_ix h
            refine g_iald hx hb hE hP (by decide) rfl (by decide) i20 dX9_appeal_124 ?_
            refine lv_icmp_ne (tgt := 132) hx hb dX9_appeal_125 (by decide) (fun c21 => ?_) (fun c21 => ?_)
            · have h := g_iff c21 h
              refine lv_iconst (v := 0) hx hb dX9_appeal_132 (by decide) ?_
              refine lv_istore (lv' := [(5, .int 0), (4, .int r19), (3, .int x12), (0, .ref (G.2.2.1 0)), (1, .int a1), (2, .int a2)]) hx hb dX9_appeal_133 hl (by decide) rfl (fun ls hl => ?_)
              refine lv_aload_n hx hb dX9_appeal_135 rfl (lv_at hl 3 rfl) ?_
              refine g_get hx hb ht hown hE hP (by decide) gE_0 uX9 rfl 0 (by decide) m_331 rfl rfl dX9_appeal_136 ?_
              refine g_get hx hb ht hown hE hP (by decide) gE_1 uX0 rfl 4 (by decide) m_258 rfl rfl dX9_appeal_139 ?_
              refine g_get hx hb ht hown hE hP (by decide) gE_31 uX3 rfl 6 (by decide) m_203 rfl rfl dX9_appeal_142 ?_
              refine lv_iload_n hx hb dX9_appeal_145 rfl (lv_at hl 4 rfl) ?_
              refine lv_iload hx hb dX9_appeal_146 (lv_at hl 0 rfl) ?_
              refine lv_if_eq (tgt := 155) hx hb dX9_appeal_148 (by decide) (fun _ => ?_) (fun c22 => absurd (by decide) c22)
              refine lv_iconst (v := 2) hx hb dX9_appeal_155 (by decide) ?_
              obtain ⟨i23, h⟩ := g_ix h
              refine g_iast hx hb hE hP hS (by decide) rfl (by decide) i23 dX9_appeal_156 (fun H locs σ24 eσ24 hP hS => ?_)
              have h := g_nm eσ24 h
              refine lv_iload hx hb dX9_appeal_157 (lv_at hl 0 rfl) ?_
              refine lv_if_eq (tgt := 166) hx hb dX9_appeal_159 (by decide) (fun _ => ?_) (fun c25 => absurd (by decide) c25)
              refine lv_iconst (v := 1) hx hb dX9_appeal_166 (by decide) ?_
              exact g_iret hx hb hr hlk hE hP hS h dX9_appeal_167
            · have h := g_ift c21 h
              refine lv_iconst (v := 1) hx hb dX9_appeal_128 (by decide) ?_
              refine lv_goto (tgt := 133) hx hb dX9_appeal_129 (by decide) ?_
              refine lv_istore (lv' := [(5, .int 1), (4, .int r19), (3, .int x12), (0, .ref (G.2.2.1 0)), (1, .int a1), (2, .int a2)]) hx hb dX9_appeal_133 hl (by decide) rfl (fun ls hl => ?_)
              refine lv_aload_n hx hb dX9_appeal_135 rfl (lv_at hl 3 rfl) ?_
              refine g_get hx hb ht hown hE hP (by decide) gE_0 uX9 rfl 0 (by decide) m_331 rfl rfl dX9_appeal_136 ?_
              refine g_get hx hb ht hown hE hP (by decide) gE_1 uX0 rfl 4 (by decide) m_258 rfl rfl dX9_appeal_139 ?_
              refine g_get hx hb ht hown hE hP (by decide) gE_31 uX3 rfl 6 (by decide) m_203 rfl rfl dX9_appeal_142 ?_
              refine lv_iload_n hx hb dX9_appeal_145 rfl (lv_at hl 4 rfl) ?_
              refine lv_iload hx hb dX9_appeal_146 (lv_at hl 0 rfl) ?_
              refine lv_if_eq (tgt := 155) hx hb dX9_appeal_148 (by decide) (fun c26 => absurd c26 (by decide)) (fun _ => ?_)
              refine lv_iconst (v := 1) hx hb dX9_appeal_151 (by decide) ?_
              refine lv_goto (tgt := 156) hx hb dX9_appeal_152 (by decide) ?_
              obtain ⟨i27, h⟩ := g_ix h
              refine g_iast hx hb hE hP hS (by decide) rfl (by decide) i27 dX9_appeal_156 (fun H locs σ28 eσ28 hP hS => ?_)
              have h := g_nm eσ28 h
              refine lv_iload hx hb dX9_appeal_157 (lv_at hl 0 rfl) ?_
              refine lv_if_eq (tgt := 166) hx hb dX9_appeal_159 (by decide) (fun c29 => absurd c29 (by decide)) (fun _ => ?_)
              refine lv_iconst (v := 0) hx hb dX9_appeal_162 (by decide) ?_
              refine lv_goto (tgt := 167) hx hb dX9_appeal_163 (by decide) ?_
              exact g_iret hx hb hr hlk hE hP hS h dX9_appeal_167
          · have h := g_iff c16 h
            refine lv_aload_n hx hb dX9_appeal_81 rfl (lv_at hl 1 rfl) ?_
            refine lv_ldc hx hb hown (ht _ m_609) dX9_appeal_82 ?_
            obtain ⟨r31, σ30, hcr31, h⟩ := g_bd h
            refine g_callV (As := [.int (-100008)]) (n := 1) hx hb hml hown ht (c_X9_finding l G _ _ hcr31) m_358 m_360 m_0 m_31 m_361 (by decide +kernel) (by decide) gE_0 rfl hE hP hS (fun _ h => h) (fun _ _ h => h) rfl hl.1 rfl (Nat.le_of_ble_eq_true rfl) dX9_appeal_84 ⟨by decide, by decide⟩ ⟨Nat.zero_le _, Nat.zero_le _⟩ (fun H locs hP hS => ?_)
            exact g_iret hx hb hr hlk hE hP hS h dX9_appeal_87
      · have h := g_iff c10 h
        refine lv_aload_n hx hb dX9_appeal_43 rfl (lv_at hl 0 rfl) ?_
        refine lv_ldc hx hb hown (ht _ m_405) dX9_appeal_44 ?_
        obtain ⟨r33, σ32, hcr33, h⟩ := g_bd h
        refine g_callV (As := [.int (-100004)]) (n := 1) hx hb hml hown ht (c_X9_finding l G _ _ hcr33) m_358 m_360 m_0 m_31 m_361 (by decide +kernel) (by decide) gE_0 rfl hE hP hS (fun _ h => h) (fun _ _ h => h) rfl hl.1 rfl (Nat.le_of_ble_eq_true rfl) dX9_appeal_46 ⟨by decide, by decide⟩ ⟨Nat.zero_le _, Nat.zero_le _⟩ (fun H locs hP hS => ?_)
        exact g_iret hx hb hr hlk hE hP hS h dX9_appeal_49
    · have h := g_ift c8 h
      refine lv_aload_n hx hb dX9_appeal_21 rfl (lv_at hl 0 rfl) ?_
      refine lv_ldc hx hb hown (ht _ m_357) dX9_appeal_22 ?_
      obtain ⟨r35, σ34, hcr35, h⟩ := g_bd h
      refine g_callV (As := [.int (-100001)]) (n := 1) hx hb hml hown ht (c_X9_finding l G _ _ hcr35) m_358 m_360 m_0 m_31 m_361 (by decide +kernel) (by decide) gE_0 rfl hE hP hS (fun _ h => h) (fun _ _ h => h) rfl hl.1 rfl (Nat.le_of_ble_eq_true rfl) dX9_appeal_24 ⟨by decide, by decide⟩ ⟨Nat.zero_le _, Nat.zero_le _⟩ (fun H locs hP hS => ?_)
      exact g_iret hx hb hr hlk hE hP hS h dX9_appeal_27

def M_X9_ordered (a1 a2 : Int32) (σ : gSt) : gO :=
  gBd (M_X3_has a1 σ) (fun r2 σ1 => if r2 = 0 then (gBd (M_X9_finding (-100001) σ1) (fun r19 σ18 => some (r19, σ18))) else (if a2 = 0 then (gIx 20 a1 (some ((σ1 32 a1.toNatClampNeg), σ1))) else (if a2 = 1 then (gIx 20 a1 (some ((σ1 33 a1.toNatClampNeg), σ1))) else (if a2 = 2 then (gIx 20 a1 (some ((σ1 34 a1.toNatClampNeg), σ1))) else (if a2 = 3 then (gIx 20 a1 (some ((σ1 35 a1.toNatClampNeg), σ1))) else (if a2 = 4 then (gIx 20 a1 (some ((σ1 36 a1.toNatClampNeg), σ1))) else (if a2 = 5 then (gIx 20 a1 (some ((σ1 37 a1.toNatClampNeg), σ1))) else ((gBd (M_X9_finding (-100001) σ1) (fun r17 σ16 => some (r17, σ16)))))))))))
set_option maxHeartbeats 4000000 in
set_option maxRecDepth 100000 in
theorem c_X9_ordered (l : Launch) (G : gPar) (a1 a2 : Int32) (σ : gSt) {r : Int32} {σ' : gSt} (h : M_X9_ordered a1 a2 σ = some (r, σ')) : gC l G yX9_ordered cX9_ordered 3 (some .int) 1 21 [.ref (G.2.2.1 0), .int a1, .int a2] σ r σ' := by
  refine gC_of (by decide) (Nat.le_of_ble_eq_true rfl) ?_
  intro p e s m below meth c hx hb hr ht hown hlk hml hE hP ls hl
  have hS : va_S (gA G) s.heap s.heap [] := va_S.rf
  have hl : lv_has ls 3 [(0, .ref (G.2.2.1 0)), (1, .int a1), (2, .int a2)] := hl
  unfold M_X9_ordered at h
  refine lv_aload_n hx hb dX9_ordered_0 rfl (lv_at hl 0 rfl) ?_
  refine g_get hx hb ht hown hE hP (by decide) gE_0 uX9 rfl 0 (by decide) m_331 rfl rfl dX9_ordered_1 ?_
  refine g_get hx hb ht hown hE hP (by decide) gE_1 uX0 rfl 4 (by decide) m_258 rfl rfl dX9_ordered_4 ?_
  refine lv_iload_n hx hb dX9_ordered_7 rfl (lv_at hl 1 rfl) ?_
  obtain ⟨r2, σ1, hcr2, h⟩ := g_bd h
  refine g_callV (As := [.int a1]) (n := 1) hx hb hml hown ht (c_X3_has l G _ _ hcr2) m_605 m_606 m_607 m_37 m_608 (by decide +kernel) (by decide) gE_31 rfl hE hP hS (fun _ h => h) (fun _ _ h => h) rfl hl.1 rfl (Nat.le_of_ble_eq_true rfl) dX9_ordered_8 ⟨by decide, by decide⟩ ⟨Nat.zero_le _, Nat.zero_le _⟩ (fun H locs hP hS => ?_)
  refine lv_if_ne (tgt := 21) hx hb dX9_ordered_11 (by decide) (fun c3 => ?_) (fun c3 => ?_)
  · have h := g_iff c3 h
    refine lv_iload_n hx hb dX9_ordered_21 rfl (lv_at hl 2 rfl) ?_
    by_cases t4 : a2 = 0
    · have h := g_ift t4 h
      refine lv_tableIn (tgt := 60) hx hb dX9_ordered_22 (by rw [t4]; decide) (by rw [t4]; decide) (by rw [t4]; rfl) (by decide) ?_
      refine lv_aload_n hx hb dX9_ordered_60 rfl (lv_at hl 0 rfl) ?_
      refine g_get hx hb ht hown hE hP (by decide) gE_0 uX9 rfl 0 (by decide) m_331 rfl rfl dX9_ordered_61 ?_
      refine g_get hx hb ht hown hE hP (by decide) gE_1 uX0 rfl 4 (by decide) m_258 rfl rfl dX9_ordered_64 ?_
      refine g_get hx hb ht hown hE hP (by decide) gE_31 uX3 rfl 1 (by decide) m_193 rfl rfl dX9_ordered_67 ?_
      refine lv_iload_n hx hb dX9_ordered_70 rfl (lv_at hl 1 rfl) ?_
      obtain ⟨i5, h⟩ := g_ix h
      refine g_iald hx hb hE hP (by decide) rfl (by decide) i5 dX9_ordered_71 ?_
      exact g_iret hx hb hr hlk hE hP hS h dX9_ordered_72
    · have h := g_iff t4 h
      by_cases t6 : a2 = 1
      · have h := g_ift t6 h
        refine lv_tableIn (tgt := 73) hx hb dX9_ordered_22 (by rw [t6]; decide) (by rw [t6]; decide) (by rw [t6]; rfl) (by decide) ?_
        refine lv_aload_n hx hb dX9_ordered_73 rfl (lv_at hl 0 rfl) ?_
        refine g_get hx hb ht hown hE hP (by decide) gE_0 uX9 rfl 0 (by decide) m_331 rfl rfl dX9_ordered_74 ?_
        refine g_get hx hb ht hown hE hP (by decide) gE_1 uX0 rfl 4 (by decide) m_258 rfl rfl dX9_ordered_77 ?_
        refine g_get hx hb ht hown hE hP (by decide) gE_31 uX3 rfl 2 (by decide) m_195 rfl rfl dX9_ordered_80 ?_
        refine lv_iload_n hx hb dX9_ordered_83 rfl (lv_at hl 1 rfl) ?_
        obtain ⟨i7, h⟩ := g_ix h
        refine g_iald hx hb hE hP (by decide) rfl (by decide) i7 dX9_ordered_84 ?_
        exact g_iret hx hb hr hlk hE hP hS h dX9_ordered_85
      · have h := g_iff t6 h
        by_cases t8 : a2 = 2
        · have h := g_ift t8 h
          refine lv_tableIn (tgt := 86) hx hb dX9_ordered_22 (by rw [t8]; decide) (by rw [t8]; decide) (by rw [t8]; rfl) (by decide) ?_
          refine lv_aload_n hx hb dX9_ordered_86 rfl (lv_at hl 0 rfl) ?_
          refine g_get hx hb ht hown hE hP (by decide) gE_0 uX9 rfl 0 (by decide) m_331 rfl rfl dX9_ordered_87 ?_
          refine g_get hx hb ht hown hE hP (by decide) gE_1 uX0 rfl 4 (by decide) m_258 rfl rfl dX9_ordered_90 ?_
          refine g_get hx hb ht hown hE hP (by decide) gE_31 uX3 rfl 3 (by decide) m_197 rfl rfl dX9_ordered_93 ?_
          refine lv_iload_n hx hb dX9_ordered_96 rfl (lv_at hl 1 rfl) ?_
          obtain ⟨i9, h⟩ := g_ix h
          refine g_iald hx hb hE hP (by decide) rfl (by decide) i9 dX9_ordered_97 ?_
          exact g_iret hx hb hr hlk hE hP hS h dX9_ordered_98
        · have h := g_iff t8 h
          by_cases t10 : a2 = 3
          · have h := g_ift t10 h
            refine lv_tableIn (tgt := 99) hx hb dX9_ordered_22 (by rw [t10]; decide) (by rw [t10]; decide) (by rw [t10]; rfl) (by decide) ?_
            refine lv_aload_n hx hb dX9_ordered_99 rfl (lv_at hl 0 rfl) ?_
            refine g_get hx hb ht hown hE hP (by decide) gE_0 uX9 rfl 0 (by decide) m_331 rfl rfl dX9_ordered_100 ?_
            refine g_get hx hb ht hown hE hP (by decide) gE_1 uX0 rfl 4 (by decide) m_258 rfl rfl dX9_ordered_103 ?_
            refine g_get hx hb ht hown hE hP (by decide) gE_31 uX3 rfl 4 (by decide) m_199 rfl rfl dX9_ordered_106 ?_
            refine lv_iload_n hx hb dX9_ordered_109 rfl (lv_at hl 1 rfl) ?_
            obtain ⟨i11, h⟩ := g_ix h
            refine g_iald hx hb hE hP (by decide) rfl (by decide) i11 dX9_ordered_110 ?_
            exact g_iret hx hb hr hlk hE hP hS h dX9_ordered_111
          · have h := g_iff t10 h
            by_cases t12 : a2 = 4
            · have h := g_ift t12 h
              refine lv_tableIn (tgt := 112) hx hb dX9_ordered_22 (by rw [t12]; decide) (by rw [t12]; decide) (by rw [t12]; rfl) (by decide) ?_
              refine lv_aload_n hx hb dX9_ordered_112 rfl (lv_at hl 0 rfl) ?_
              refine g_get hx hb ht hown hE hP (by decide) gE_0 uX9 rfl 0 (by decide) m_331 rfl rfl dX9_ordered_113 ?_
              refine g_get hx hb ht hown hE hP (by decide) gE_1 uX0 rfl 4 (by decide) m_258 rfl rfl dX9_ordered_116 ?_
              refine g_get hx hb ht hown hE hP (by decide) gE_31 uX3 rfl 5 (by decide) m_201 rfl rfl dX9_ordered_119 ?_
              refine lv_iload_n hx hb dX9_ordered_122 rfl (lv_at hl 1 rfl) ?_
              obtain ⟨i13, h⟩ := g_ix h
              refine g_iald hx hb hE hP (by decide) rfl (by decide) i13 dX9_ordered_123 ?_
              exact g_iret hx hb hr hlk hE hP hS h dX9_ordered_124
            · have h := g_iff t12 h
              by_cases t14 : a2 = 5
              · have h := g_ift t14 h
                refine lv_tableIn (tgt := 125) hx hb dX9_ordered_22 (by rw [t14]; decide) (by rw [t14]; decide) (by rw [t14]; rfl) (by decide) ?_
                refine lv_aload_n hx hb dX9_ordered_125 rfl (lv_at hl 0 rfl) ?_
                refine g_get hx hb ht hown hE hP (by decide) gE_0 uX9 rfl 0 (by decide) m_331 rfl rfl dX9_ordered_126 ?_
                refine g_get hx hb ht hown hE hP (by decide) gE_1 uX0 rfl 4 (by decide) m_258 rfl rfl dX9_ordered_129 ?_
                refine g_get hx hb ht hown hE hP (by decide) gE_31 uX3 rfl 6 (by decide) m_203 rfl rfl dX9_ordered_132 ?_
                refine lv_iload_n hx hb dX9_ordered_135 rfl (lv_at hl 1 rfl) ?_
                obtain ⟨i15, h⟩ := g_ix h
                refine g_iald hx hb hE hP (by decide) rfl (by decide) i15 dX9_ordered_136 ?_
                exact g_iret hx hb hr hlk hE hP hS h dX9_ordered_137
              · have h := g_iff t14 h
                refine lv_tableOut (tgt := 138) hx hb dX9_ordered_22 (by have := g_ne t4; have := g_ne t6; have := g_ne t8; have := g_ne t10; have := g_ne t12; have := g_ne t14; simp only [show ((0 : Int32).toInt) = 0 from rfl, show ((1 : Int32).toInt) = 1 from rfl, show ((2 : Int32).toInt) = 2 from rfl, show ((3 : Int32).toInt) = 3 from rfl, show ((4 : Int32).toInt) = 4 from rfl, show ((5 : Int32).toInt) = 5 from rfl] at *; omega) (by decide) ?_
                refine lv_aload_n hx hb dX9_ordered_138 rfl (lv_at hl 0 rfl) ?_
                refine lv_ldc hx hb hown (ht _ m_357) dX9_ordered_139 ?_
                obtain ⟨r17, σ16, hcr17, h⟩ := g_bd h
                refine g_callV (As := [.int (-100001)]) (n := 1) hx hb hml hown ht (c_X9_finding l G _ _ hcr17) m_358 m_360 m_0 m_31 m_361 (by decide +kernel) (by decide) gE_0 rfl hE hP hS (fun _ h => h) (fun _ _ h => h) rfl hl.1 rfl (Nat.le_of_ble_eq_true rfl) dX9_ordered_141 ⟨by decide, by decide⟩ ⟨Nat.zero_le _, Nat.zero_le _⟩ (fun H locs hP hS => ?_)
                exact g_iret hx hb hr hlk hE hP hS h dX9_ordered_144
  · have h := g_ift c3 h
    refine lv_aload_n hx hb dX9_ordered_14 rfl (lv_at hl 0 rfl) ?_
    refine lv_ldc hx hb hown (ht _ m_357) dX9_ordered_15 ?_
    obtain ⟨r19, σ18, hcr19, h⟩ := g_bd h
    refine g_callV (As := [.int (-100001)]) (n := 1) hx hb hml hown ht (c_X9_finding l G _ _ hcr19) m_358 m_360 m_0 m_31 m_361 (by decide +kernel) (by decide) gE_0 rfl hE hP hS (fun _ h => h) (fun _ _ h => h) rfl hl.1 rfl (Nat.le_of_ble_eq_true rfl) dX9_ordered_17 ⟨by decide, by decide⟩ ⟨Nat.zero_le _, Nat.zero_le _⟩ (fun H locs hP hS => ?_)
    exact g_iret hx hb hr hlk hE hP hS h dX9_ordered_20

def M_X9_costs (a1 : Int32) (σ : gSt) : gO :=
  gBd (M_X4_has a1 σ) (fun r2 σ1 => if r2 = 0 then (gBd (M_X9_finding (-100001) σ1) (fun r7 σ6 => some (r7, σ6))) else (gBd (M_X3_borneBy a1 σ1) (fun r5 σ4 => some (r5, σ4))))
set_option maxHeartbeats 4000000 in
set_option maxRecDepth 100000 in
theorem c_X9_costs (l : Launch) (G : gPar) (a1 : Int32) (σ : gSt) {r : Int32} {σ' : gSt} (h : M_X9_costs a1 σ = some (r, σ')) : gC l G yX9_costs cX9_costs 2 (some .int) 1 24 [.ref (G.2.2.1 0), .int a1] σ r σ' := by
  refine gC_of (by decide) (Nat.le_of_ble_eq_true rfl) ?_
  intro p e s m below meth c hx hb hr ht hown hlk hml hE hP ls hl
  have hS : va_S (gA G) s.heap s.heap [] := va_S.rf
  have hl : lv_has ls 2 [(0, .ref (G.2.2.1 0)), (1, .int a1)] := hl
  unfold M_X9_costs at h
  refine lv_aload_n hx hb dX9_costs_0 rfl (lv_at hl 0 rfl) ?_
  refine g_get hx hb ht hown hE hP (by decide) gE_0 uX9 rfl 0 (by decide) m_331 rfl rfl dX9_costs_1 ?_
  refine g_get hx hb ht hown hE hP (by decide) gE_1 uX0 rfl 0 (by decide) m_247 rfl rfl dX9_costs_4 ?_
  refine lv_iload_n hx hb dX9_costs_7 rfl (lv_at hl 1 rfl) ?_
  obtain ⟨r2, σ1, hcr2, h⟩ := g_bd h
  refine g_callV (As := [.int a1]) (n := 1) hx hb hml hown ht (c_X4_has l G _ _ hcr2) m_371 m_372 m_373 m_33 m_374 (by decide +kernel) (by decide) gE_2 rfl hE hP hS (fun _ h => h) (fun _ _ h => h) rfl hl.1 rfl (Nat.le_of_ble_eq_true rfl) dX9_costs_8 ⟨by decide, by decide⟩ ⟨Nat.zero_le _, Nat.zero_le _⟩ (fun H locs hP hS => ?_)
  refine lv_if_ne (tgt := 21) hx hb dX9_costs_11 (by decide) (fun c3 => ?_) (fun c3 => ?_)
  · have h := g_iff c3 h
    refine lv_aload_n hx hb dX9_costs_21 rfl (lv_at hl 0 rfl) ?_
    refine g_get hx hb ht hown hE hP (by decide) gE_0 uX9 rfl 0 (by decide) m_331 rfl rfl dX9_costs_22 ?_
    refine g_get hx hb ht hown hE hP (by decide) gE_1 uX0 rfl 4 (by decide) m_258 rfl rfl dX9_costs_25 ?_
    refine lv_iload_n hx hb dX9_costs_28 rfl (lv_at hl 1 rfl) ?_
    obtain ⟨r5, σ4, hcr5, h⟩ := g_bd h
    refine g_callV (As := [.int a1]) (n := 1) hx hb hml hown ht (c_X3_borneBy l G _ _ hcr5) m_618 m_619 m_620 m_37 m_621 (by decide +kernel) (by decide) gE_31 rfl hE hP hS (fun _ h => h) (fun _ _ h => h) rfl hl.1 rfl (Nat.le_of_ble_eq_true rfl) dX9_costs_29 ⟨by decide, by decide⟩ ⟨Nat.zero_le _, Nat.zero_le _⟩ (fun H locs hP hS => ?_)
    exact g_iret hx hb hr hlk hE hP hS h dX9_costs_32
  · have h := g_ift c3 h
    refine lv_aload_n hx hb dX9_costs_14 rfl (lv_at hl 0 rfl) ?_
    refine lv_ldc hx hb hown (ht _ m_357) dX9_costs_15 ?_
    obtain ⟨r7, σ6, hcr7, h⟩ := g_bd h
    refine g_callV (As := [.int (-100001)]) (n := 1) hx hb hml hown ht (c_X9_finding l G _ _ hcr7) m_358 m_360 m_0 m_31 m_361 (by decide +kernel) (by decide) gE_0 rfl hE hP hS (fun _ h => h) (fun _ _ h => h) rfl hl.1 rfl (Nat.le_of_ble_eq_true rfl) dX9_costs_17 ⟨by decide, by decide⟩ ⟨Nat.zero_le _, Nat.zero_le _⟩ (fun H locs hP hS => ?_)
    exact g_iret hx hb hr hlk hE hP hS h dX9_costs_20

def M_X9_set (a1 a2 : Int32) (σ : gSt) : gO :=
  if a1 = 0 then (gBd (M_X9_within a2 0 999 σ) (fun r13 σ12 => if r13 = 0 then (if a1 = 1 then (gBd (M_X9_within a2 1 20 σ12) (fun r19 σ18 => if r19 = 0 then (gBd (M_X9_finding (-100001) σ18) (fun r22 σ21 => some (r22, σ21))) else (gNm ((σ18 38 0) : Int32) (fun x23 => gNm (gUp σ18 38 0 a2) (fun σ24 => some (x23, σ24)))))) else (gBd (M_X9_finding (-100001) σ12) (fun r17 σ16 => some (r17, σ16)))) else (gNm ((σ12 1 6) : Int32) (fun x25 => gNm (gUp σ12 1 6 a2) (fun σ26 => some (x25, σ26)))))) else (if a1 = 1 then (gBd (M_X9_within a2 1 20 σ) (fun r6 σ5 => if r6 = 0 then (gBd (M_X9_finding (-100001) σ5) (fun r9 σ8 => some (r9, σ8))) else (gNm ((σ5 38 0) : Int32) (fun x10 => gNm (gUp σ5 38 0 a2) (fun σ11 => some (x10, σ11)))))) else (gBd (M_X9_finding (-100001) σ) (fun r4 σ3 => some (r4, σ3))))
set_option maxHeartbeats 4000000 in
set_option maxRecDepth 100000 in
theorem c_X9_set (l : Launch) (G : gPar) (a1 a2 : Int32) (σ : gSt) {r : Int32} {σ' : gSt} (h : M_X9_set a1 a2 σ = some (r, σ')) : gC l G yX9_set cX9_set 4 (some .int) 1 22 [.ref (G.2.2.1 0), .int a1, .int a2] σ r σ' := by
  refine gC_of (by decide) (Nat.le_of_ble_eq_true rfl) ?_
  intro p e s m below meth c hx hb hr ht hown hlk hml hE hP ls hl
  have hS : va_S (gA G) s.heap s.heap [] := va_S.rf
  have hl : lv_has ls 4 [(0, .ref (G.2.2.1 0)), (1, .int a1), (2, .int a2)] := hl
  unfold M_X9_set at h
  refine lv_iload_n hx hb dX9_set_0 rfl (lv_at hl 1 rfl) ?_
  refine lv_if_ne (tgt := 33) hx hb dX9_set_1 (by decide) (fun c1 => ?_) (fun c1 => ?_)
  · have h := g_iff c1 h
    refine lv_iload_n hx hb dX9_set_33 rfl (lv_at hl 1 rfl) ?_
    refine lv_iconst (v := 1) hx hb dX9_set_34 (by decide) ?_
    refine lv_icmp_ne (tgt := 72) hx hb dX9_set_35 (by decide) (fun c2 => ?_) (fun c2 => ?_)
    · have h := g_iff c2 h
      refine lv_aload_n hx hb dX9_set_72 rfl (lv_at hl 0 rfl) ?_
      refine lv_ldc hx hb hown (ht _ m_357) dX9_set_73 ?_
      obtain ⟨r4, σ3, hcr4, h⟩ := g_bd h
      refine g_callV (As := [.int (-100001)]) (n := 1) hx hb hml hown ht (c_X9_finding l G _ _ hcr4) m_358 m_360 m_0 m_31 m_361 (by decide +kernel) (by decide) gE_0 rfl hE hP hS (fun _ h => h) (fun _ _ h => h) rfl hl.1 rfl (Nat.le_of_ble_eq_true rfl) dX9_set_75 ⟨by decide, by decide⟩ ⟨Nat.zero_le _, Nat.zero_le _⟩ (fun H locs hP hS => ?_)
      exact g_iret hx hb hr hlk hE hP hS h dX9_set_78
    · have h := g_ift c2 h
      refine lv_iload_n hx hb dX9_set_38 rfl (lv_at hl 2 rfl) ?_
      refine lv_iconst (v := 1) hx hb dX9_set_39 (by decide) ?_
      refine lv_bipush (v := 20) hx hb dX9_set_40 (by decide) ?_
      obtain ⟨r6, σ5, hcr6, h⟩ := g_bd h
      refine g_callS (As := [.int a2, .int 1, .int 20]) (n := 3) hx hb hml hown ht (c_X9_within l G _ _ _ _ hcr6) m_354 m_355 m_31 m_356 (by decide +kernel) hE hP hS (fun _ h => h) (fun _ _ h => h) rfl hl.1 rfl (Nat.le_of_ble_eq_true rfl) dX9_set_42 ⟨by decide, by decide⟩ ⟨Nat.zero_le _, Nat.zero_le _⟩ (fun H locs hP hS => ?_)
      refine lv_if_eq (tgt := 72) hx hb dX9_set_45 (by decide) (fun c7 => ?_) (fun c7 => ?_)
      · have h := g_ift c7 h
        refine lv_aload_n hx hb dX9_set_72 rfl (lv_at hl 0 rfl) ?_
        refine lv_ldc hx hb hown (ht _ m_357) dX9_set_73 ?_
        obtain ⟨r9, σ8, hcr9, h⟩ := g_bd h
        refine g_callV (As := [.int (-100001)]) (n := 1) hx hb hml hown ht (c_X9_finding l G _ _ hcr9) m_358 m_360 m_0 m_31 m_361 (by decide +kernel) (by decide) gE_0 rfl hE hP hS (fun _ h => h) (fun _ _ h => h) rfl hl.1 rfl (Nat.le_of_ble_eq_true rfl) dX9_set_75 ⟨by decide, by decide⟩ ⟨Nat.zero_le _, Nat.zero_le _⟩ (fun H locs hP hS => ?_)
        exact g_iret hx hb hr hlk hE hP hS h dX9_set_78
      · have h := g_iff c7 h
        refine lv_aload_n hx hb dX9_set_48 rfl (lv_at hl 0 rfl) ?_
        refine g_get hx hb ht hown hE hP (by decide) gE_0 uX9 rfl 0 (by decide) m_331 rfl rfl dX9_set_49 ?_
        refine g_get hx hb ht hown hE hP (by decide) gE_1 uX0 rfl 5 (by decide) m_260 rfl rfl dX9_set_52 ?_
        refine g_get hx hb ht hown hE hP (by decide) gE_38 uX6 rfl 0 (by decide) m_226 rfl rfl dX9_set_55 ?_
        refine lv_topi (fun x10 ex10 => ?_)
        have h := g_nm ex10 h
        refine lv_istore_n (lv' := [(3, .int x10), (0, .ref (G.2.2.1 0)), (1, .int a1), (2, .int a2)]) hx hb dX9_set_58 rfl hl (by decide) rfl (fun ls hl => ?_)
        refine lv_aload_n hx hb dX9_set_59 rfl (lv_at hl 1 rfl) ?_
        refine g_get hx hb ht hown hE hP (by decide) gE_0 uX9 rfl 0 (by decide) m_331 rfl rfl dX9_set_60 ?_
        refine g_get hx hb ht hown hE hP (by decide) gE_1 uX0 rfl 5 (by decide) m_260 rfl rfl dX9_set_63 ?_
        refine lv_iload_n hx hb dX9_set_66 rfl (lv_at hl 3 rfl) ?_
        refine g_put hx hb ht hown hE hP hS (by decide) gE_38 uX6 tyX6_ok nmX6 rfl 0 (by decide) m_226 rfl rfl rfl rfl rfl (Nat.le_of_ble_eq_true rfl) rfl dX9_set_67 (fun H locs σ11 eσ11 hP hS => ?_)
        have h := g_nm eσ11 h
        refine lv_iload_n hx hb dX9_set_70 rfl (lv_at hl 0 rfl) ?_
        exact g_iret hx hb hr hlk hE hP hS h dX9_set_71
  · have h := g_ift c1 h
    refine lv_iload_n hx hb dX9_set_4 rfl (lv_at hl 2 rfl) ?_
    refine lv_iconst (v := 0) hx hb dX9_set_5 (by decide) ?_
    refine lv_sipush (v := 999) hx hb dX9_set_6 (by decide) ?_
    obtain ⟨r13, σ12, hcr13, h⟩ := g_bd h
    refine g_callS (As := [.int a2, .int 0, .int 999]) (n := 3) hx hb hml hown ht (c_X9_within l G _ _ _ _ hcr13) m_354 m_355 m_31 m_356 (by decide +kernel) hE hP hS (fun _ h => h) (fun _ _ h => h) rfl hl.1 rfl (Nat.le_of_ble_eq_true rfl) dX9_set_9 ⟨by decide, by decide⟩ ⟨Nat.zero_le _, Nat.zero_le _⟩ (fun H locs hP hS => ?_)
    refine lv_if_eq (tgt := 33) hx hb dX9_set_12 (by decide) (fun c14 => ?_) (fun c14 => ?_)
    · have h := g_ift c14 h
      refine lv_iload_n hx hb dX9_set_33 rfl (lv_at hl 1 rfl) ?_
      refine lv_iconst (v := 1) hx hb dX9_set_34 (by decide) ?_
      refine lv_icmp_ne (tgt := 72) hx hb dX9_set_35 (by decide) (fun c15 => ?_) (fun c15 => ?_)
      · have h := g_iff c15 h
        refine lv_aload_n hx hb dX9_set_72 rfl (lv_at hl 0 rfl) ?_
        refine lv_ldc hx hb hown (ht _ m_357) dX9_set_73 ?_
        obtain ⟨r17, σ16, hcr17, h⟩ := g_bd h
        refine g_callV (As := [.int (-100001)]) (n := 1) hx hb hml hown ht (c_X9_finding l G _ _ hcr17) m_358 m_360 m_0 m_31 m_361 (by decide +kernel) (by decide) gE_0 rfl hE hP hS (fun _ h => h) (fun _ _ h => h) rfl hl.1 rfl (Nat.le_of_ble_eq_true rfl) dX9_set_75 ⟨by decide, by decide⟩ ⟨Nat.zero_le _, Nat.zero_le _⟩ (fun H locs hP hS => ?_)
        exact g_iret hx hb hr hlk hE hP hS h dX9_set_78
      · have h := g_ift c15 h
        refine lv_iload_n hx hb dX9_set_38 rfl (lv_at hl 2 rfl) ?_
        refine lv_iconst (v := 1) hx hb dX9_set_39 (by decide) ?_
        refine lv_bipush (v := 20) hx hb dX9_set_40 (by decide) ?_
        obtain ⟨r19, σ18, hcr19, h⟩ := g_bd h
        refine g_callS (As := [.int a2, .int 1, .int 20]) (n := 3) hx hb hml hown ht (c_X9_within l G _ _ _ _ hcr19) m_354 m_355 m_31 m_356 (by decide +kernel) hE hP hS (fun _ h => h) (fun _ _ h => h) rfl hl.1 rfl (Nat.le_of_ble_eq_true rfl) dX9_set_42 ⟨by decide, by decide⟩ ⟨Nat.zero_le _, Nat.zero_le _⟩ (fun H locs hP hS => ?_)
        refine lv_if_eq (tgt := 72) hx hb dX9_set_45 (by decide) (fun c20 => ?_) (fun c20 => ?_)
        · have h := g_ift c20 h
          refine lv_aload_n hx hb dX9_set_72 rfl (lv_at hl 0 rfl) ?_
          refine lv_ldc hx hb hown (ht _ m_357) dX9_set_73 ?_
          obtain ⟨r22, σ21, hcr22, h⟩ := g_bd h
          refine g_callV (As := [.int (-100001)]) (n := 1) hx hb hml hown ht (c_X9_finding l G _ _ hcr22) m_358 m_360 m_0 m_31 m_361 (by decide +kernel) (by decide) gE_0 rfl hE hP hS (fun _ h => h) (fun _ _ h => h) rfl hl.1 rfl (Nat.le_of_ble_eq_true rfl) dX9_set_75 ⟨by decide, by decide⟩ ⟨Nat.zero_le _, Nat.zero_le _⟩ (fun H locs hP hS => ?_)
          exact g_iret hx hb hr hlk hE hP hS h dX9_set_78
        · have h := g_iff c20 h
          refine lv_aload_n hx hb dX9_set_48 rfl (lv_at hl 0 rfl) ?_
          refine g_get hx hb ht hown hE hP (by decide) gE_0 uX9 rfl 0 (by decide) m_331 rfl rfl dX9_set_49 ?_
          refine g_get hx hb ht hown hE hP (by decide) gE_1 uX0 rfl 5 (by decide) m_260 rfl rfl dX9_set_52 ?_
          refine g_get hx hb ht hown hE hP (by decide) gE_38 uX6 rfl 0 (by decide) m_226 rfl rfl dX9_set_55 ?_
          refine lv_topi (fun x23 ex23 => ?_)
          have h := g_nm ex23 h
          refine lv_istore_n (lv' := [(3, .int x23), (0, .ref (G.2.2.1 0)), (1, .int a1), (2, .int a2)]) hx hb dX9_set_58 rfl hl (by decide) rfl (fun ls hl => ?_)
          refine lv_aload_n hx hb dX9_set_59 rfl (lv_at hl 1 rfl) ?_
          refine g_get hx hb ht hown hE hP (by decide) gE_0 uX9 rfl 0 (by decide) m_331 rfl rfl dX9_set_60 ?_
          refine g_get hx hb ht hown hE hP (by decide) gE_1 uX0 rfl 5 (by decide) m_260 rfl rfl dX9_set_63 ?_
          refine lv_iload_n hx hb dX9_set_66 rfl (lv_at hl 3 rfl) ?_
          refine g_put hx hb ht hown hE hP hS (by decide) gE_38 uX6 tyX6_ok nmX6 rfl 0 (by decide) m_226 rfl rfl rfl rfl rfl (Nat.le_of_ble_eq_true rfl) rfl dX9_set_67 (fun H locs σ24 eσ24 hP hS => ?_)
          have h := g_nm eσ24 h
          refine lv_iload_n hx hb dX9_set_70 rfl (lv_at hl 0 rfl) ?_
          exact g_iret hx hb hr hlk hE hP hS h dX9_set_71
    · have h := g_iff c14 h
      refine lv_aload_n hx hb dX9_set_15 rfl (lv_at hl 0 rfl) ?_
      refine g_get hx hb ht hown hE hP (by decide) gE_0 uX9 rfl 0 (by decide) m_331 rfl rfl dX9_set_16 ?_
      refine g_get hx hb ht hown hE hP (by decide) gE_1 uX0 rfl 6 (by decide) m_262 rfl rfl dX9_set_19 ?_
      refine lv_topi (fun x25 ex25 => ?_)
      have h := g_nm ex25 h
      refine lv_istore_n (lv' := [(3, .int x25), (0, .ref (G.2.2.1 0)), (1, .int a1), (2, .int a2)]) hx hb dX9_set_22 rfl hl (by decide) rfl (fun ls hl => ?_)
      refine lv_aload_n hx hb dX9_set_23 rfl (lv_at hl 1 rfl) ?_
      refine g_get hx hb ht hown hE hP (by decide) gE_0 uX9 rfl 0 (by decide) m_331 rfl rfl dX9_set_24 ?_
      refine lv_iload_n hx hb dX9_set_27 rfl (lv_at hl 3 rfl) ?_
      refine g_put hx hb ht hown hE hP hS (by decide) gE_1 uX0 tyX0_ok nmX0 rfl 6 (by decide) m_262 rfl rfl rfl rfl rfl (Nat.le_of_ble_eq_true rfl) rfl dX9_set_28 (fun H locs σ26 eσ26 hP hS => ?_)
      have h := g_nm eσ26 h
      refine lv_iload_n hx hb dX9_set_31 rfl (lv_at hl 0 rfl) ?_
      exact g_iret hx hb hr hlk hE hP hS h dX9_set_32

def M_X9_list (a1 a2 a3 : Int32) (σ : gSt) : gO :=
  if a2 = (-1) then (gBd (M_X5_has a1 σ) (fun r26 σ25 => if r26 = 0 then (gBd (M_X9_finding (-100001) σ25) (fun r29 σ28 => some (r29, σ28))) else (gIx 10 a1 (gNm ((σ25 39 a1.toNatClampNeg) : Int32) (fun x32 => gIx 10 a1 (gNm (gUp σ25 39 a1.toNatClampNeg a2) (fun σ34 => gIx 10 a1 (gNm (gUp σ34 40 a1.toNatClampNeg 0) (fun σ37 => some (x32, σ37)))))))))) else (gBd (M_X5_has a1 σ) (fun r3 σ2 => if r3 = 0 then (gBd (M_X9_finding (-100001) σ2) (fun r6 σ5 => some (r6, σ5))) else (gBd (M_X4_has a2 σ2) (fun r9 σ8 => if r9 = 0 then (gBd (M_X9_finding (-100001) σ8) (fun r12 σ11 => some (r12, σ11))) else (gBd (M_X9_isWeek a3 σ8) (fun r14 σ13 => if r14 = 0 then (gBd (M_X9_finding (-100001) σ13) (fun r24 σ23 => some (r24, σ23))) else (gIx 10 a1 (gNm ((σ13 39 a1.toNatClampNeg) : Int32) (fun x17 => gIx 10 a1 (gNm (gUp σ13 39 a1.toNatClampNeg a2) (fun σ19 => gIx 10 a1 (gNm (gUp σ19 40 a1.toNatClampNeg a3) (fun σ22 => some (x17, σ22))))))))))))))
set_option maxHeartbeats 4000000 in
set_option maxRecDepth 100000 in
theorem c_X9_list (l : Launch) (G : gPar) (a1 a2 a3 : Int32) (σ : gSt) {r : Int32} {σ' : gSt} (h : M_X9_list a1 a2 a3 σ = some (r, σ')) : gC l G yX9_list cX9_list 6 (some .int) 2 42 [.ref (G.2.2.1 0), .int a1, .int a2, .int a3] σ r σ' := by
  refine gC_of (by decide) (Nat.le_of_ble_eq_true rfl) ?_
  intro p e s m below meth c hx hb hr ht hown hlk hml hE hP ls hl
  have hS : va_S (gA G) s.heap s.heap [] := va_S.rf
  have hl : lv_has ls 6 [(0, .ref (G.2.2.1 0)), (1, .int a1), (2, .int a2), (3, .int a3)] := hl
  unfold M_X9_list at h
  refine lv_iload_n hx hb dX9_list_0 rfl (lv_at hl 2 rfl) ?_
  refine lv_iconst (v := (-1)) hx hb dX9_list_1 (by decide) ?_
  refine lv_icmp_ne (tgt := 9) hx hb dX9_list_2 (by decide) (fun c1 => ?_) (fun c1 => ?_)
  · have h := g_iff c1 h
    refine lv_iconst (v := 0) hx hb dX9_list_9 (by decide) ?_
    refine lv_istore (lv' := [(4, .int 0), (0, .ref (G.2.2.1 0)), (1, .int a1), (2, .int a2), (3, .int a3)]) hx hb dX9_list_10 hl (by decide) rfl (fun ls hl => ?_)
    refine lv_aload_n hx hb dX9_list_12 rfl (lv_at hl 1 rfl) ?_
    refine g_get hx hb ht hown hE hP (by decide) gE_0 uX9 rfl 0 (by decide) m_331 rfl rfl dX9_list_13 ?_
    refine g_get hx hb ht hown hE hP (by decide) gE_1 uX0 rfl 1 (by decide) m_249 rfl rfl dX9_list_16 ?_
    refine lv_iload_n hx hb dX9_list_19 rfl (lv_at hl 2 rfl) ?_
    obtain ⟨r3, σ2, hcr3, h⟩ := g_bd h
    refine g_callV (As := [.int a1]) (n := 1) hx hb hml hown ht (c_X5_has l G _ _ hcr3) m_395 m_396 m_397 m_34 m_398 (by decide +kernel) (by decide) gE_11 rfl hE hP hS (fun _ h => h) (fun _ _ h => h) rfl hl.1 rfl (Nat.le_of_ble_eq_true rfl) dX9_list_20 ⟨by decide, by decide⟩ ⟨Nat.zero_le _, Nat.zero_le _⟩ (fun H locs hP hS => ?_)
    refine lv_if_eq (tgt := 52) hx hb dX9_list_23 (by decide) (fun c4 => ?_) (fun c4 => ?_)
    · have h := g_ift c4 h
      refine lv_aload_n hx hb dX9_list_52 rfl (lv_at hl 1 rfl) ?_
      refine lv_ldc hx hb hown (ht _ m_357) dX9_list_53 ?_
      obtain ⟨r6, σ5, hcr6, h⟩ := g_bd h
      refine g_callV (As := [.int (-100001)]) (n := 1) hx hb hml hown ht (c_X9_finding l G _ _ hcr6) m_358 m_360 m_0 m_31 m_361 (by decide +kernel) (by decide) gE_0 rfl hE hP hS (fun _ h => h) (fun _ _ h => h) rfl hl.1 rfl (Nat.le_of_ble_eq_true rfl) dX9_list_55 ⟨by decide, by decide⟩ ⟨Nat.zero_le _, Nat.zero_le _⟩ (fun H locs hP hS => ?_)
      exact g_iret hx hb hr hlk hE hP hS h dX9_list_58
    · have h := g_iff c4 h
      refine lv_iload hx hb dX9_list_26 (lv_at hl 0 rfl) ?_
      refine lv_if_ne (tgt := 59) hx hb dX9_list_28 (by decide) (fun c7 => absurd (by decide) c7) (fun _ => ?_)
      refine lv_aload_n hx hb dX9_list_31 rfl (lv_at hl 1 rfl) ?_
      refine g_get hx hb ht hown hE hP (by decide) gE_0 uX9 rfl 0 (by decide) m_331 rfl rfl dX9_list_32 ?_
      refine g_get hx hb ht hown hE hP (by decide) gE_1 uX0 rfl 0 (by decide) m_247 rfl rfl dX9_list_35 ?_
      refine lv_iload_n hx hb dX9_list_38 rfl (lv_at hl 3 rfl) ?_
      obtain ⟨r9, σ8, hcr9, h⟩ := g_bd h
      refine g_callV (As := [.int a2]) (n := 1) hx hb hml hown ht (c_X4_has l G _ _ hcr9) m_371 m_372 m_373 m_33 m_374 (by decide +kernel) (by decide) gE_2 rfl hE hP hS (fun _ h => h) (fun _ _ h => h) rfl hl.1 rfl (Nat.le_of_ble_eq_true rfl) dX9_list_39 ⟨by decide, by decide⟩ ⟨Nat.zero_le _, Nat.zero_le _⟩ (fun H locs hP hS => ?_)
      refine lv_if_eq (tgt := 52) hx hb dX9_list_42 (by decide) (fun c10 => ?_) (fun c10 => ?_)
      · have h := g_ift c10 h
        refine lv_aload_n hx hb dX9_list_52 rfl (lv_at hl 1 rfl) ?_
        refine lv_ldc hx hb hown (ht _ m_357) dX9_list_53 ?_
        obtain ⟨r12, σ11, hcr12, h⟩ := g_bd h
        refine g_callV (As := [.int (-100001)]) (n := 1) hx hb hml hown ht (c_X9_finding l G _ _ hcr12) m_358 m_360 m_0 m_31 m_361 (by decide +kernel) (by decide) gE_0 rfl hE hP hS (fun _ h => h) (fun _ _ h => h) rfl hl.1 rfl (Nat.le_of_ble_eq_true rfl) dX9_list_55 ⟨by decide, by decide⟩ ⟨Nat.zero_le _, Nat.zero_le _⟩ (fun H locs hP hS => ?_)
        exact g_iret hx hb hr hlk hE hP hS h dX9_list_58
      · have h := g_iff c10 h
        refine lv_iload_n hx hb dX9_list_45 rfl (lv_at hl 4 rfl) ?_
        obtain ⟨r14, σ13, hcr14, h⟩ := g_bd h
        refine g_callS (As := [.int a3]) (n := 1) hx hb hml hown ht (c_X9_isWeek l G _ _ hcr14) m_630 m_631 m_31 m_632 (by decide +kernel) hE hP hS (fun _ h => h) (fun _ _ h => h) rfl hl.1 rfl (Nat.le_of_ble_eq_true rfl) dX9_list_46 ⟨by decide, by decide⟩ ⟨Nat.zero_le _, Nat.zero_le _⟩ (fun H locs hP hS => ?_)
        refine lv_if_ne (tgt := 59) hx hb dX9_list_49 (by decide) (fun c15 => ?_) (fun c15 => ?_)
        · have h := g_iff c15 h
          refine lv_aload_n hx hb dX9_list_59 rfl (lv_at hl 1 rfl) ?_
          refine g_get hx hb ht hown hE hP (by decide) gE_0 uX9 rfl 0 (by decide) m_331 rfl rfl dX9_list_60 ?_
          refine g_get hx hb ht hown hE hP (by decide) gE_1 uX0 rfl 5 (by decide) m_260 rfl rfl dX9_list_63 ?_
          refine g_get hx hb ht hown hE hP (by decide) gE_38 uX6 rfl 1 (by decide) m_228 rfl rfl dX9_list_66 ?_
          refine lv_iload_n hx hb dX9_list_69 rfl (lv_at hl 2 rfl) ?_
          obtain ⟨i16, h⟩ := g_ix h
          refine g_iald hx hb hE hP (by decide) rfl (by decide) i16 dX9_list_70 ?_
          refine lv_topi (fun x17 ex17 => ?_)
          have h := g_nm ex17 h
          refine lv_istore (lv' := [(5, .int x17), (4, .int 0), (0, .ref (G.2.2.1 0)), (1, .int a1), (2, .int a2), (3, .int a3)]) hx hb dX9_list_71 hl (by decide) rfl (fun ls hl => ?_)
          refine lv_aload_n hx hb dX9_list_73 rfl (lv_at hl 2 rfl) ?_
          refine g_get hx hb ht hown hE hP (by decide) gE_0 uX9 rfl 0 (by decide) m_331 rfl rfl dX9_list_74 ?_
          refine g_get hx hb ht hown hE hP (by decide) gE_1 uX0 rfl 5 (by decide) m_260 rfl rfl dX9_list_77 ?_
          refine g_get hx hb ht hown hE hP (by decide) gE_38 uX6 rfl 1 (by decide) m_228 rfl rfl dX9_list_80 ?_
          refine lv_iload_n hx hb dX9_list_83 rfl (lv_at hl 3 rfl) ?_
          refine lv_iload_n hx hb dX9_list_84 rfl (lv_at hl 4 rfl) ?_
          obtain ⟨i18, h⟩ := g_ix h
          refine g_iast hx hb hE hP hS (by decide) rfl (by decide) i18 dX9_list_85 (fun H locs σ19 eσ19 hP hS => ?_)
          have h := g_nm eσ19 h
          refine lv_aload_n hx hb dX9_list_86 rfl (lv_at hl 2 rfl) ?_
          refine g_get hx hb ht hown hE hP (by decide) gE_0 uX9 rfl 0 (by decide) m_331 rfl rfl dX9_list_87 ?_
          refine g_get hx hb ht hown hE hP (by decide) gE_1 uX0 rfl 5 (by decide) m_260 rfl rfl dX9_list_90 ?_
          refine g_get hx hb ht hown hE hP (by decide) gE_38 uX6 rfl 2 (by decide) m_230 rfl rfl dX9_list_93 ?_
          refine lv_iload_n hx hb dX9_list_96 rfl (lv_at hl 3 rfl) ?_
          refine lv_iload hx hb dX9_list_97 (lv_at hl 1 rfl) ?_
          refine lv_if_eq (tgt := 106) hx hb dX9_list_99 (by decide) (fun _ => ?_) (fun c20 => absurd (by decide) c20)
          refine lv_iload_n hx hb dX9_list_106 rfl (lv_at hl 5 rfl) ?_
          obtain ⟨i21, h⟩ := g_ix h
          refine g_iast hx hb hE hP hS (by decide) rfl (by decide) i21 dX9_list_107 (fun H locs σ22 eσ22 hP hS => ?_)
          have h := g_nm eσ22 h
          refine lv_iload hx hb dX9_list_108 (lv_at hl 0 rfl) ?_
          exact g_iret hx hb hr hlk hE hP hS h dX9_list_110
        · have h := g_ift c15 h
          refine lv_aload_n hx hb dX9_list_52 rfl (lv_at hl 1 rfl) ?_
          refine lv_ldc hx hb hown (ht _ m_357) dX9_list_53 ?_
          obtain ⟨r24, σ23, hcr24, h⟩ := g_bd h
          refine g_callV (As := [.int (-100001)]) (n := 1) hx hb hml hown ht (c_X9_finding l G _ _ hcr24) m_358 m_360 m_0 m_31 m_361 (by decide +kernel) (by decide) gE_0 rfl hE hP hS (fun _ h => h) (fun _ _ h => h) rfl hl.1 rfl (Nat.le_of_ble_eq_true rfl) dX9_list_55 ⟨by decide, by decide⟩ ⟨Nat.zero_le _, Nat.zero_le _⟩ (fun H locs hP hS => ?_)
          exact g_iret hx hb hr hlk hE hP hS h dX9_list_58
  · have h := g_ift c1 h
    refine lv_iconst (v := 1) hx hb dX9_list_5 (by decide) ?_
    refine lv_goto (tgt := 10) hx hb dX9_list_6 (by decide) ?_
    refine lv_istore (lv' := [(4, .int 1), (0, .ref (G.2.2.1 0)), (1, .int a1), (2, .int a2), (3, .int a3)]) hx hb dX9_list_10 hl (by decide) rfl (fun ls hl => ?_)
    refine lv_aload_n hx hb dX9_list_12 rfl (lv_at hl 1 rfl) ?_
    refine g_get hx hb ht hown hE hP (by decide) gE_0 uX9 rfl 0 (by decide) m_331 rfl rfl dX9_list_13 ?_
    refine g_get hx hb ht hown hE hP (by decide) gE_1 uX0 rfl 1 (by decide) m_249 rfl rfl dX9_list_16 ?_
    refine lv_iload_n hx hb dX9_list_19 rfl (lv_at hl 2 rfl) ?_
    obtain ⟨r26, σ25, hcr26, h⟩ := g_bd h
    refine g_callV (As := [.int a1]) (n := 1) hx hb hml hown ht (c_X5_has l G _ _ hcr26) m_395 m_396 m_397 m_34 m_398 (by decide +kernel) (by decide) gE_11 rfl hE hP hS (fun _ h => h) (fun _ _ h => h) rfl hl.1 rfl (Nat.le_of_ble_eq_true rfl) dX9_list_20 ⟨by decide, by decide⟩ ⟨Nat.zero_le _, Nat.zero_le _⟩ (fun H locs hP hS => ?_)
    refine lv_if_eq (tgt := 52) hx hb dX9_list_23 (by decide) (fun c27 => ?_) (fun c27 => ?_)
    · have h := g_ift c27 h
      refine lv_aload_n hx hb dX9_list_52 rfl (lv_at hl 1 rfl) ?_
      refine lv_ldc hx hb hown (ht _ m_357) dX9_list_53 ?_
      obtain ⟨r29, σ28, hcr29, h⟩ := g_bd h
      refine g_callV (As := [.int (-100001)]) (n := 1) hx hb hml hown ht (c_X9_finding l G _ _ hcr29) m_358 m_360 m_0 m_31 m_361 (by decide +kernel) (by decide) gE_0 rfl hE hP hS (fun _ h => h) (fun _ _ h => h) rfl hl.1 rfl (Nat.le_of_ble_eq_true rfl) dX9_list_55 ⟨by decide, by decide⟩ ⟨Nat.zero_le _, Nat.zero_le _⟩ (fun H locs hP hS => ?_)
      exact g_iret hx hb hr hlk hE hP hS h dX9_list_58
    · have h := g_iff c27 h
      refine lv_iload hx hb dX9_list_26 (lv_at hl 0 rfl) ?_
      refine lv_if_ne (tgt := 59) hx hb dX9_list_28 (by decide) (fun _ => ?_) (fun c30 => absurd c30 (by decide))
      refine lv_aload_n hx hb dX9_list_59 rfl (lv_at hl 1 rfl) ?_
      refine g_get hx hb ht hown hE hP (by decide) gE_0 uX9 rfl 0 (by decide) m_331 rfl rfl dX9_list_60 ?_
      refine g_get hx hb ht hown hE hP (by decide) gE_1 uX0 rfl 5 (by decide) m_260 rfl rfl dX9_list_63 ?_
      refine g_get hx hb ht hown hE hP (by decide) gE_38 uX6 rfl 1 (by decide) m_228 rfl rfl dX9_list_66 ?_
      refine lv_iload_n hx hb dX9_list_69 rfl (lv_at hl 2 rfl) ?_
      obtain ⟨i31, h⟩ := g_ix h
      refine g_iald hx hb hE hP (by decide) rfl (by decide) i31 dX9_list_70 ?_
      refine lv_topi (fun x32 ex32 => ?_)
      have h := g_nm ex32 h
      refine lv_istore (lv' := [(5, .int x32), (4, .int 1), (0, .ref (G.2.2.1 0)), (1, .int a1), (2, .int a2), (3, .int a3)]) hx hb dX9_list_71 hl (by decide) rfl (fun ls hl => ?_)
      refine lv_aload_n hx hb dX9_list_73 rfl (lv_at hl 2 rfl) ?_
      refine g_get hx hb ht hown hE hP (by decide) gE_0 uX9 rfl 0 (by decide) m_331 rfl rfl dX9_list_74 ?_
      refine g_get hx hb ht hown hE hP (by decide) gE_1 uX0 rfl 5 (by decide) m_260 rfl rfl dX9_list_77 ?_
      refine g_get hx hb ht hown hE hP (by decide) gE_38 uX6 rfl 1 (by decide) m_228 rfl rfl dX9_list_80 ?_
      refine lv_iload_n hx hb dX9_list_83 rfl (lv_at hl 3 rfl) ?_
      refine lv_iload_n hx hb dX9_list_84 rfl (lv_at hl 4 rfl) ?_
      obtain ⟨i33, h⟩ := g_ix h
      refine g_iast hx hb hE hP hS (by decide) rfl (by decide) i33 dX9_list_85 (fun H locs σ34 eσ34 hP hS => ?_)
      have h := g_nm eσ34 h
      refine lv_aload_n hx hb dX9_list_86 rfl (lv_at hl 2 rfl) ?_
      refine g_get hx hb ht hown hE hP (by decide) gE_0 uX9 rfl 0 (by decide) m_331 rfl rfl dX9_list_87 ?_
      refine g_get hx hb ht hown hE hP (by decide) gE_1 uX0 rfl 5 (by decide) m_260 rfl rfl dX9_list_90 ?_
      refine g_get hx hb ht hown hE hP (by decide) gE_38 uX6 rfl 2 (by decide) m_230 rfl rfl dX9_list_93 ?_
      refine lv_iload_n hx hb dX9_list_96 rfl (lv_at hl 3 rfl) ?_
      refine lv_iload hx hb dX9_list_97 (lv_at hl 1 rfl) ?_
      refine lv_if_eq (tgt := 106) hx hb dX9_list_99 (by decide) (fun c35 => absurd c35 (by decide)) (fun _ => ?_)
      refine lv_iconst (v := 0) hx hb dX9_list_102 (by decide) ?_
      refine lv_goto (tgt := 107) hx hb dX9_list_103 (by decide) ?_
      obtain ⟨i36, h⟩ := g_ix h
      refine g_iast hx hb hE hP hS (by decide) rfl (by decide) i36 dX9_list_107 (fun H locs σ37 eσ37 hP hS => ?_)
      have h := g_nm eσ37 h
      refine lv_iload hx hb dX9_list_108 (lv_at hl 0 rfl) ?_
      exact g_iret hx hb hr hlk hE hP hS h dX9_list_110

def M_X9_earns (a1 a2 : Int32) (σ : gSt) : gO :=
  gBd (M_X5_has a1 σ) (fun r2 σ1 => if r2 = 0 then (gBd (M_X9_finding (-100001) σ1) (fun r5 σ4 => some (r5, σ4))) else (gBd (M_X9_within a2 0 999 σ1) (fun r7 σ6 => if r7 = 0 then (gBd (M_X9_finding (-100001) σ6) (fun r14 σ13 => some (r14, σ13))) else (gIx 10 a1 (gNm ((σ6 41 a1.toNatClampNeg) : Int32) (fun x10 => gIx 10 a1 (gNm (gUp σ6 41 a1.toNatClampNeg a2) (fun σ12 => some (x10, σ12)))))))))
set_option maxHeartbeats 4000000 in
set_option maxRecDepth 100000 in
theorem c_X9_earns (l : Launch) (G : gPar) (a1 a2 : Int32) (σ : gSt) {r : Int32} {σ' : gSt} (h : M_X9_earns a1 a2 σ = some (r, σ')) : gC l G yX9_earns cX9_earns 4 (some .int) 1 22 [.ref (G.2.2.1 0), .int a1, .int a2] σ r σ' := by
  refine gC_of (by decide) (Nat.le_of_ble_eq_true rfl) ?_
  intro p e s m below meth c hx hb hr ht hown hlk hml hE hP ls hl
  have hS : va_S (gA G) s.heap s.heap [] := va_S.rf
  have hl : lv_has ls 4 [(0, .ref (G.2.2.1 0)), (1, .int a1), (2, .int a2)] := hl
  unfold M_X9_earns at h
  refine lv_aload_n hx hb dX9_earns_0 rfl (lv_at hl 0 rfl) ?_
  refine g_get hx hb ht hown hE hP (by decide) gE_0 uX9 rfl 0 (by decide) m_331 rfl rfl dX9_earns_1 ?_
  refine g_get hx hb ht hown hE hP (by decide) gE_1 uX0 rfl 1 (by decide) m_249 rfl rfl dX9_earns_4 ?_
  refine lv_iload_n hx hb dX9_earns_7 rfl (lv_at hl 1 rfl) ?_
  obtain ⟨r2, σ1, hcr2, h⟩ := g_bd h
  refine g_callV (As := [.int a1]) (n := 1) hx hb hml hown ht (c_X5_has l G _ _ hcr2) m_395 m_396 m_397 m_34 m_398 (by decide +kernel) (by decide) gE_11 rfl hE hP hS (fun _ h => h) (fun _ _ h => h) rfl hl.1 rfl (Nat.le_of_ble_eq_true rfl) dX9_earns_8 ⟨by decide, by decide⟩ ⟨Nat.zero_le _, Nat.zero_le _⟩ (fun H locs hP hS => ?_)
  refine lv_if_eq (tgt := 25) hx hb dX9_earns_11 (by decide) (fun c3 => ?_) (fun c3 => ?_)
  · have h := g_ift c3 h
    refine lv_aload_n hx hb dX9_earns_25 rfl (lv_at hl 0 rfl) ?_
    refine lv_ldc hx hb hown (ht _ m_357) dX9_earns_26 ?_
    obtain ⟨r5, σ4, hcr5, h⟩ := g_bd h
    refine g_callV (As := [.int (-100001)]) (n := 1) hx hb hml hown ht (c_X9_finding l G _ _ hcr5) m_358 m_360 m_0 m_31 m_361 (by decide +kernel) (by decide) gE_0 rfl hE hP hS (fun _ h => h) (fun _ _ h => h) rfl hl.1 rfl (Nat.le_of_ble_eq_true rfl) dX9_earns_28 ⟨by decide, by decide⟩ ⟨Nat.zero_le _, Nat.zero_le _⟩ (fun H locs hP hS => ?_)
    exact g_iret hx hb hr hlk hE hP hS h dX9_earns_31
  · have h := g_iff c3 h
    refine lv_iload_n hx hb dX9_earns_14 rfl (lv_at hl 2 rfl) ?_
    refine lv_iconst (v := 0) hx hb dX9_earns_15 (by decide) ?_
    refine lv_sipush (v := 999) hx hb dX9_earns_16 (by decide) ?_
    obtain ⟨r7, σ6, hcr7, h⟩ := g_bd h
    refine g_callS (As := [.int a2, .int 0, .int 999]) (n := 3) hx hb hml hown ht (c_X9_within l G _ _ _ _ hcr7) m_354 m_355 m_31 m_356 (by decide +kernel) hE hP hS (fun _ h => h) (fun _ _ h => h) rfl hl.1 rfl (Nat.le_of_ble_eq_true rfl) dX9_earns_19 ⟨by decide, by decide⟩ ⟨Nat.zero_le _, Nat.zero_le _⟩ (fun H locs hP hS => ?_)
    refine lv_if_ne (tgt := 32) hx hb dX9_earns_22 (by decide) (fun c8 => ?_) (fun c8 => ?_)
    · have h := g_iff c8 h
      refine lv_aload_n hx hb dX9_earns_32 rfl (lv_at hl 0 rfl) ?_
      refine g_get hx hb ht hown hE hP (by decide) gE_0 uX9 rfl 0 (by decide) m_331 rfl rfl dX9_earns_33 ?_
      refine g_get hx hb ht hown hE hP (by decide) gE_1 uX0 rfl 5 (by decide) m_260 rfl rfl dX9_earns_36 ?_
      refine g_get hx hb ht hown hE hP (by decide) gE_38 uX6 rfl 3 (by decide) m_232 rfl rfl dX9_earns_39 ?_
      refine lv_iload_n hx hb dX9_earns_42 rfl (lv_at hl 1 rfl) ?_
      obtain ⟨i9, h⟩ := g_ix h
      refine g_iald hx hb hE hP (by decide) rfl (by decide) i9 dX9_earns_43 ?_
      refine lv_topi (fun x10 ex10 => ?_)
      have h := g_nm ex10 h
      refine lv_istore_n (lv' := [(3, .int x10), (0, .ref (G.2.2.1 0)), (1, .int a1), (2, .int a2)]) hx hb dX9_earns_44 rfl hl (by decide) rfl (fun ls hl => ?_)
      refine lv_aload_n hx hb dX9_earns_45 rfl (lv_at hl 1 rfl) ?_
      refine g_get hx hb ht hown hE hP (by decide) gE_0 uX9 rfl 0 (by decide) m_331 rfl rfl dX9_earns_46 ?_
      refine g_get hx hb ht hown hE hP (by decide) gE_1 uX0 rfl 5 (by decide) m_260 rfl rfl dX9_earns_49 ?_
      refine g_get hx hb ht hown hE hP (by decide) gE_38 uX6 rfl 3 (by decide) m_232 rfl rfl dX9_earns_52 ?_
      refine lv_iload_n hx hb dX9_earns_55 rfl (lv_at hl 2 rfl) ?_
      refine lv_iload_n hx hb dX9_earns_56 rfl (lv_at hl 3 rfl) ?_
      obtain ⟨i11, h⟩ := g_ix h
      refine g_iast hx hb hE hP hS (by decide) rfl (by decide) i11 dX9_earns_57 (fun H locs σ12 eσ12 hP hS => ?_)
      have h := g_nm eσ12 h
      refine lv_iload_n hx hb dX9_earns_58 rfl (lv_at hl 0 rfl) ?_
      exact g_iret hx hb hr hlk hE hP hS h dX9_earns_59
    · have h := g_ift c8 h
      refine lv_aload_n hx hb dX9_earns_25 rfl (lv_at hl 0 rfl) ?_
      refine lv_ldc hx hb hown (ht _ m_357) dX9_earns_26 ?_
      obtain ⟨r14, σ13, hcr14, h⟩ := g_bd h
      refine g_callV (As := [.int (-100001)]) (n := 1) hx hb hml hown ht (c_X9_finding l G _ _ hcr14) m_358 m_360 m_0 m_31 m_361 (by decide +kernel) (by decide) gE_0 rfl hE hP hS (fun _ h => h) (fun _ _ h => h) rfl hl.1 rfl (Nat.le_of_ble_eq_true rfl) dX9_earns_28 ⟨by decide, by decide⟩ ⟨Nat.zero_le _, Nat.zero_le _⟩ (fun H locs hP hS => ?_)
      exact g_iret hx hb hr hlk hE hP hS h dX9_earns_31

def M_X9_price (a1 a2 : Int32) (σ : gSt) : gO :=
  gBd (M_X9_isWeek a1 σ) (fun r2 σ1 => if r2 = 0 then (gBd (M_X9_finding (-100001) σ1) (fun r5 σ4 => some (r5, σ4))) else (gBd (M_X9_within a2 0 99 σ1) (fun r7 σ6 => if r7 = 0 then (gBd (M_X9_finding (-100001) σ6) (fun r14 σ13 => some (r14, σ13))) else (gIx 60 a1 (gNm ((σ6 42 a1.toNatClampNeg) : Int32) (fun x10 => gIx 60 a1 (gNm (gUp σ6 42 a1.toNatClampNeg a2) (fun σ12 => some (x10, σ12)))))))))
set_option maxHeartbeats 4000000 in
set_option maxRecDepth 100000 in
theorem c_X9_price (l : Launch) (G : gPar) (a1 a2 : Int32) (σ : gSt) {r : Int32} {σ' : gSt} (h : M_X9_price a1 a2 σ = some (r, σ')) : gC l G yX9_price cX9_price 4 (some .int) 2 42 [.ref (G.2.2.1 0), .int a1, .int a2] σ r σ' := by
  refine gC_of (by decide) (Nat.le_of_ble_eq_true rfl) ?_
  intro p e s m below meth c hx hb hr ht hown hlk hml hE hP ls hl
  have hS : va_S (gA G) s.heap s.heap [] := va_S.rf
  have hl : lv_has ls 4 [(0, .ref (G.2.2.1 0)), (1, .int a1), (2, .int a2)] := hl
  unfold M_X9_price at h
  refine lv_iload_n hx hb dX9_price_0 rfl (lv_at hl 1 rfl) ?_
  obtain ⟨r2, σ1, hcr2, h⟩ := g_bd h
  refine g_callS (As := [.int a1]) (n := 1) hx hb hml hown ht (c_X9_isWeek l G _ _ hcr2) m_630 m_631 m_31 m_632 (by decide +kernel) hE hP hS (fun _ h => h) (fun _ _ h => h) rfl hl.1 rfl (Nat.le_of_ble_eq_true rfl) dX9_price_1 ⟨by decide, by decide⟩ ⟨Nat.zero_le _, Nat.zero_le _⟩ (fun H locs hP hS => ?_)
  refine lv_if_eq (tgt := 17) hx hb dX9_price_4 (by decide) (fun c3 => ?_) (fun c3 => ?_)
  · have h := g_ift c3 h
    refine lv_aload_n hx hb dX9_price_17 rfl (lv_at hl 0 rfl) ?_
    refine lv_ldc hx hb hown (ht _ m_357) dX9_price_18 ?_
    obtain ⟨r5, σ4, hcr5, h⟩ := g_bd h
    refine g_callV (As := [.int (-100001)]) (n := 1) hx hb hml hown ht (c_X9_finding l G _ _ hcr5) m_358 m_360 m_0 m_31 m_361 (by decide +kernel) (by decide) gE_0 rfl hE hP hS (fun _ h => h) (fun _ _ h => h) rfl hl.1 rfl (Nat.le_of_ble_eq_true rfl) dX9_price_20 ⟨by decide, by decide⟩ ⟨Nat.zero_le _, Nat.zero_le _⟩ (fun H locs hP hS => ?_)
    exact g_iret hx hb hr hlk hE hP hS h dX9_price_23
  · have h := g_iff c3 h
    refine lv_iload_n hx hb dX9_price_7 rfl (lv_at hl 2 rfl) ?_
    refine lv_iconst (v := 0) hx hb dX9_price_8 (by decide) ?_
    refine lv_bipush (v := 99) hx hb dX9_price_9 (by decide) ?_
    obtain ⟨r7, σ6, hcr7, h⟩ := g_bd h
    refine g_callS (As := [.int a2, .int 0, .int 99]) (n := 3) hx hb hml hown ht (c_X9_within l G _ _ _ _ hcr7) m_354 m_355 m_31 m_356 (by decide +kernel) hE hP hS (fun _ h => h) (fun _ _ h => h) rfl hl.1 rfl (Nat.le_of_ble_eq_true rfl) dX9_price_11 ⟨by decide, by decide⟩ ⟨Nat.zero_le _, Nat.zero_le _⟩ (fun H locs hP hS => ?_)
    refine lv_if_ne (tgt := 24) hx hb dX9_price_14 (by decide) (fun c8 => ?_) (fun c8 => ?_)
    · have h := g_iff c8 h
      refine lv_aload_n hx hb dX9_price_24 rfl (lv_at hl 0 rfl) ?_
      refine g_get hx hb ht hown hE hP (by decide) gE_0 uX9 rfl 0 (by decide) m_331 rfl rfl dX9_price_25 ?_
      refine g_get hx hb ht hown hE hP (by decide) gE_1 uX0 rfl 5 (by decide) m_260 rfl rfl dX9_price_28 ?_
      refine g_get hx hb ht hown hE hP (by decide) gE_38 uX6 rfl 4 (by decide) m_234 rfl rfl dX9_price_31 ?_
      refine lv_iload_n hx hb dX9_price_34 rfl (lv_at hl 1 rfl) ?_
      obtain ⟨i9, h⟩ := g_ix h
      refine g_iald hx hb hE hP (by decide) rfl (by decide) i9 dX9_price_35 ?_
      refine lv_topi (fun x10 ex10 => ?_)
      have h := g_nm ex10 h
      refine lv_istore_n (lv' := [(3, .int x10), (0, .ref (G.2.2.1 0)), (1, .int a1), (2, .int a2)]) hx hb dX9_price_36 rfl hl (by decide) rfl (fun ls hl => ?_)
      refine lv_aload_n hx hb dX9_price_37 rfl (lv_at hl 1 rfl) ?_
      refine g_get hx hb ht hown hE hP (by decide) gE_0 uX9 rfl 0 (by decide) m_331 rfl rfl dX9_price_38 ?_
      refine g_get hx hb ht hown hE hP (by decide) gE_1 uX0 rfl 5 (by decide) m_260 rfl rfl dX9_price_41 ?_
      refine g_get hx hb ht hown hE hP (by decide) gE_38 uX6 rfl 4 (by decide) m_234 rfl rfl dX9_price_44 ?_
      refine lv_iload_n hx hb dX9_price_47 rfl (lv_at hl 2 rfl) ?_
      refine lv_iload_n hx hb dX9_price_48 rfl (lv_at hl 3 rfl) ?_
      obtain ⟨i11, h⟩ := g_ix h
      refine g_iast hx hb hE hP hS (by decide) rfl (by decide) i11 dX9_price_49 (fun H locs σ12 eσ12 hP hS => ?_)
      have h := g_nm eσ12 h
      refine lv_iload_n hx hb dX9_price_50 rfl (lv_at hl 0 rfl) ?_
      exact g_iret hx hb hr hlk hE hP hS h dX9_price_51
    · have h := g_ift c8 h
      refine lv_aload_n hx hb dX9_price_17 rfl (lv_at hl 0 rfl) ?_
      refine lv_ldc hx hb hown (ht _ m_357) dX9_price_18 ?_
      obtain ⟨r14, σ13, hcr14, h⟩ := g_bd h
      refine g_callV (As := [.int (-100001)]) (n := 1) hx hb hml hown ht (c_X9_finding l G _ _ hcr14) m_358 m_360 m_0 m_31 m_361 (by decide +kernel) (by decide) gE_0 rfl hE hP hS (fun _ h => h) (fun _ _ h => h) rfl hl.1 rfl (Nat.le_of_ble_eq_true rfl) dX9_price_20 ⟨by decide, by decide⟩ ⟨Nat.zero_le _, Nat.zero_le _⟩ (fun H locs hP hS => ?_)
      exact g_iret hx hb hr hlk hE hP hS h dX9_price_23

def M_X9_relief (a1 a2 : Int32) (σ : gSt) : gO :=
  gBd (M_X5_has a1 σ) (fun r2 σ1 => if r2 = 0 then (gBd (M_X9_finding (-100001) σ1) (fun r5 σ4 => some (r5, σ4))) else (gBd (M_X9_isWeek a2 σ1) (fun r7 σ6 => if r7 = 0 then (gBd (M_X9_finding (-100001) σ6) (fun r21 σ20 => some (r21, σ20))) else (gBd (M_X6_listIn a1 a2 σ6) (fun r10 σ9 => if r10 = (-1) then (gBd (M_X9_finding (-100006) σ9) (fun r19 σ18 => some (r19, σ18))) else (gIx 60 a2 (if (σ9 42 a2.toNatClampNeg) = 0 then (gBd (M_X9_finding (-100002) σ9) (fun r17 σ16 => some (r17, σ16))) else (gBd (M_X6_reliefOf a1 a2 σ9) (fun r15 σ14 => some (r15, σ14))))))))))
set_option maxHeartbeats 4000000 in
set_option maxRecDepth 100000 in
theorem c_X9_relief (l : Launch) (G : gPar) (a1 a2 : Int32) (σ : gSt) {r : Int32} {σ' : gSt} (h : M_X9_relief a1 a2 σ = some (r, σ')) : gC l G yX9_relief cX9_relief 3 (some .int) 3 72 [.ref (G.2.2.1 0), .int a1, .int a2] σ r σ' := by
  refine gC_of (by decide) (Nat.le_of_ble_eq_true rfl) ?_
  intro p e s m below meth c hx hb hr ht hown hlk hml hE hP ls hl
  have hS : va_S (gA G) s.heap s.heap [] := va_S.rf
  have hl : lv_has ls 3 [(0, .ref (G.2.2.1 0)), (1, .int a1), (2, .int a2)] := hl
  unfold M_X9_relief at h
  refine lv_aload_n hx hb dX9_relief_0 rfl (lv_at hl 0 rfl) ?_
  refine g_get hx hb ht hown hE hP (by decide) gE_0 uX9 rfl 0 (by decide) m_331 rfl rfl dX9_relief_1 ?_
  refine g_get hx hb ht hown hE hP (by decide) gE_1 uX0 rfl 1 (by decide) m_249 rfl rfl dX9_relief_4 ?_
  refine lv_iload_n hx hb dX9_relief_7 rfl (lv_at hl 1 rfl) ?_
  obtain ⟨r2, σ1, hcr2, h⟩ := g_bd h
  refine g_callV (As := [.int a1]) (n := 1) hx hb hml hown ht (c_X5_has l G _ _ hcr2) m_395 m_396 m_397 m_34 m_398 (by decide +kernel) (by decide) gE_11 rfl hE hP hS (fun _ h => h) (fun _ _ h => h) rfl hl.1 rfl (Nat.le_of_ble_eq_true rfl) dX9_relief_8 ⟨by decide, by decide⟩ ⟨Nat.zero_le _, Nat.zero_le _⟩ (fun H locs hP hS => ?_)
  refine lv_if_eq (tgt := 21) hx hb dX9_relief_11 (by decide) (fun c3 => ?_) (fun c3 => ?_)
  · have h := g_ift c3 h
    refine lv_aload_n hx hb dX9_relief_21 rfl (lv_at hl 0 rfl) ?_
    refine lv_ldc hx hb hown (ht _ m_357) dX9_relief_22 ?_
    obtain ⟨r5, σ4, hcr5, h⟩ := g_bd h
    refine g_callV (As := [.int (-100001)]) (n := 1) hx hb hml hown ht (c_X9_finding l G _ _ hcr5) m_358 m_360 m_0 m_31 m_361 (by decide +kernel) (by decide) gE_0 rfl hE hP hS (fun _ h => h) (fun _ _ h => h) rfl hl.1 rfl (Nat.le_of_ble_eq_true rfl) dX9_relief_24 ⟨by decide, by decide⟩ ⟨Nat.zero_le _, Nat.zero_le _⟩ (fun H locs hP hS => ?_)
    exact g_iret hx hb hr hlk hE hP hS h dX9_relief_27
  · have h := g_iff c3 h
    refine lv_iload_n hx hb dX9_relief_14 rfl (lv_at hl 2 rfl) ?_
    obtain ⟨r7, σ6, hcr7, h⟩ := g_bd h
    refine g_callS (As := [.int a2]) (n := 1) hx hb hml hown ht (c_X9_isWeek l G _ _ hcr7) m_630 m_631 m_31 m_632 (by decide +kernel) hE hP hS (fun _ h => h) (fun _ _ h => h) rfl hl.1 rfl (Nat.le_of_ble_eq_true rfl) dX9_relief_15 ⟨by decide, by decide⟩ ⟨Nat.zero_le _, Nat.zero_le _⟩ (fun H locs hP hS => ?_)
    refine lv_if_ne (tgt := 28) hx hb dX9_relief_18 (by decide) (fun c8 => ?_) (fun c8 => ?_)
    · have h := g_iff c8 h
      refine lv_aload_n hx hb dX9_relief_28 rfl (lv_at hl 0 rfl) ?_
      refine g_get hx hb ht hown hE hP (by decide) gE_0 uX9 rfl 0 (by decide) m_331 rfl rfl dX9_relief_29 ?_
      refine g_get hx hb ht hown hE hP (by decide) gE_1 uX0 rfl 5 (by decide) m_260 rfl rfl dX9_relief_32 ?_
      refine lv_iload_n hx hb dX9_relief_35 rfl (lv_at hl 1 rfl) ?_
      refine lv_iload_n hx hb dX9_relief_36 rfl (lv_at hl 2 rfl) ?_
      obtain ⟨r10, σ9, hcr10, h⟩ := g_bd h
      refine g_callV (As := [.int a1, .int a2]) (n := 2) hx hb hml hown ht (c_X6_listIn l G _ _ _ hcr10) m_645 m_646 m_647 m_38 m_648 (by decide +kernel) (by decide) gE_38 rfl hE hP hS (fun _ h => h) (fun _ _ h => h) rfl hl.1 rfl (Nat.le_of_ble_eq_true rfl) dX9_relief_37 ⟨by decide, by decide⟩ ⟨Nat.zero_le _, Nat.zero_le _⟩ (fun H locs hP hS => ?_)
      refine lv_iconst (v := (-1)) hx hb dX9_relief_40 (by decide) ?_
      refine lv_icmp_ne (tgt := 51) hx hb dX9_relief_41 (by decide) (fun c11 => ?_) (fun c11 => ?_)
      · have h := g_iff c11 h
        refine lv_aload_n hx hb dX9_relief_51 rfl (lv_at hl 0 rfl) ?_
        refine g_get hx hb ht hown hE hP (by decide) gE_0 uX9 rfl 0 (by decide) m_331 rfl rfl dX9_relief_52 ?_
        refine g_get hx hb ht hown hE hP (by decide) gE_1 uX0 rfl 5 (by decide) m_260 rfl rfl dX9_relief_55 ?_
        refine g_get hx hb ht hown hE hP (by decide) gE_38 uX6 rfl 4 (by decide) m_234 rfl rfl dX9_relief_58 ?_
        refine lv_iload_n hx hb dX9_relief_61 rfl (lv_at hl 2 rfl) ?_
        obtain ⟨i12, h⟩ := g_ix h
        refine g_iald hx hb hE hP (by decide) rfl (by decide) i12 dX9_relief_62 ?_
        refine lv_if_ne (tgt := 73) hx hb dX9_relief_63 (by decide) (fun c13 => ?_) (fun c13 => ?_)
        · have h := g_iff c13 h
          refine lv_aload_n hx hb dX9_relief_73 rfl (lv_at hl 0 rfl) ?_
          refine g_get hx hb ht hown hE hP (by decide) gE_0 uX9 rfl 0 (by decide) m_331 rfl rfl dX9_relief_74 ?_
          refine g_get hx hb ht hown hE hP (by decide) gE_1 uX0 rfl 5 (by decide) m_260 rfl rfl dX9_relief_77 ?_
          refine lv_aload_n hx hb dX9_relief_80 rfl (lv_at hl 0 rfl) ?_
          refine g_get hx hb ht hown hE hP (by decide) gE_0 uX9 rfl 0 (by decide) m_331 rfl rfl dX9_relief_81 ?_
          refine g_get hx hb ht hown hE hP (by decide) gE_1 uX0 rfl 1 (by decide) m_249 rfl rfl dX9_relief_84 ?_
          refine lv_iload_n hx hb dX9_relief_87 rfl (lv_at hl 1 rfl) ?_
          refine lv_iload_n hx hb dX9_relief_88 rfl (lv_at hl 2 rfl) ?_
          obtain ⟨r15, σ14, hcr15, h⟩ := g_bd h
          refine g_callV (As := [.ref (G.2.2.1 11), .int a1, .int a2]) (n := 3) hx hb hml hown ht (c_X6_reliefOf l G _ _ _ hcr15) m_650 m_651 m_652 m_38 m_653 (by decide +kernel) (by decide) gE_38 rfl hE hP hS (fun _ h => h) (fun _ _ h => h) rfl hl.1 rfl (Nat.le_of_ble_eq_true rfl) dX9_relief_89 ⟨by decide, by decide⟩ ⟨Nat.zero_le _, Nat.zero_le _⟩ (fun H locs hP hS => ?_)
          exact g_iret hx hb hr hlk hE hP hS h dX9_relief_92
        · have h := g_ift c13 h
          refine lv_aload_n hx hb dX9_relief_66 rfl (lv_at hl 0 rfl) ?_
          refine lv_ldc hx hb hown (ht _ m_649) dX9_relief_67 ?_
          obtain ⟨r17, σ16, hcr17, h⟩ := g_bd h
          refine g_callV (As := [.int (-100002)]) (n := 1) hx hb hml hown ht (c_X9_finding l G _ _ hcr17) m_358 m_360 m_0 m_31 m_361 (by decide +kernel) (by decide) gE_0 rfl hE hP hS (fun _ h => h) (fun _ _ h => h) rfl hl.1 rfl (Nat.le_of_ble_eq_true rfl) dX9_relief_69 ⟨by decide, by decide⟩ ⟨Nat.zero_le _, Nat.zero_le _⟩ (fun H locs hP hS => ?_)
          exact g_iret hx hb hr hlk hE hP hS h dX9_relief_72
      · have h := g_ift c11 h
        refine lv_aload_n hx hb dX9_relief_44 rfl (lv_at hl 0 rfl) ?_
        refine lv_ldc hx hb hown (ht _ m_452) dX9_relief_45 ?_
        obtain ⟨r19, σ18, hcr19, h⟩ := g_bd h
        refine g_callV (As := [.int (-100006)]) (n := 1) hx hb hml hown ht (c_X9_finding l G _ _ hcr19) m_358 m_360 m_0 m_31 m_361 (by decide +kernel) (by decide) gE_0 rfl hE hP hS (fun _ h => h) (fun _ _ h => h) rfl hl.1 rfl (Nat.le_of_ble_eq_true rfl) dX9_relief_47 ⟨by decide, by decide⟩ ⟨Nat.zero_le _, Nat.zero_le _⟩ (fun H locs hP hS => ?_)
        exact g_iret hx hb hr hlk hE hP hS h dX9_relief_50
    · have h := g_ift c8 h
      refine lv_aload_n hx hb dX9_relief_21 rfl (lv_at hl 0 rfl) ?_
      refine lv_ldc hx hb hown (ht _ m_357) dX9_relief_22 ?_
      obtain ⟨r21, σ20, hcr21, h⟩ := g_bd h
      refine g_callV (As := [.int (-100001)]) (n := 1) hx hb hml hown ht (c_X9_finding l G _ _ hcr21) m_358 m_360 m_0 m_31 m_361 (by decide +kernel) (by decide) gE_0 rfl hE hP hS (fun _ h => h) (fun _ _ h => h) rfl hl.1 rfl (Nat.le_of_ble_eq_true rfl) dX9_relief_24 ⟨by decide, by decide⟩ ⟨Nat.zero_le _, Nat.zero_le _⟩ (fun H locs hP hS => ?_)
      exact g_iret hx hb hr hlk hE hP hS h dX9_relief_27

def M_X9_week (a1 a2 : Int32) (σ : gSt) : gO :=
  gBd (M_X4_has a1 σ) (fun r2 σ1 => if r2 = 0 then (gBd (M_X9_finding (-100001) σ1) (fun r5 σ4 => some (r5, σ4))) else (gBd (M_X9_isWeek a2 σ1) (fun r7 σ6 => if r7 = 0 then (gBd (M_X9_finding (-100001) σ6) (fun r16 σ15 => some (r16, σ15))) else (gIx 60 a2 (if (σ6 42 a2.toNatClampNeg) = 0 then (gBd (M_X9_finding (-100002) σ6) (fun r14 σ13 => some (r14, σ13))) else (gBd (M_X6_reliefOfAll a1 a2 σ6) (fun r12 σ11 => some (r12, σ11))))))))
set_option maxHeartbeats 4000000 in
set_option maxRecDepth 100000 in
theorem c_X9_week (l : Launch) (G : gPar) (a1 a2 : Int32) (σ : gSt) {r : Int32} {σ' : gSt} (h : M_X9_week a1 a2 σ = some (r, σ')) : gC l G yX9_week cX9_week 3 (some .int) 4 97 [.ref (G.2.2.1 0), .int a1, .int a2] σ r σ' := by
  refine gC_of (by decide) (Nat.le_of_ble_eq_true rfl) ?_
  intro p e s m below meth c hx hb hr ht hown hlk hml hE hP ls hl
  have hS : va_S (gA G) s.heap s.heap [] := va_S.rf
  have hl : lv_has ls 3 [(0, .ref (G.2.2.1 0)), (1, .int a1), (2, .int a2)] := hl
  unfold M_X9_week at h
  refine lv_aload_n hx hb dX9_week_0 rfl (lv_at hl 0 rfl) ?_
  refine g_get hx hb ht hown hE hP (by decide) gE_0 uX9 rfl 0 (by decide) m_331 rfl rfl dX9_week_1 ?_
  refine g_get hx hb ht hown hE hP (by decide) gE_1 uX0 rfl 0 (by decide) m_247 rfl rfl dX9_week_4 ?_
  refine lv_iload_n hx hb dX9_week_7 rfl (lv_at hl 1 rfl) ?_
  obtain ⟨r2, σ1, hcr2, h⟩ := g_bd h
  refine g_callV (As := [.int a1]) (n := 1) hx hb hml hown ht (c_X4_has l G _ _ hcr2) m_371 m_372 m_373 m_33 m_374 (by decide +kernel) (by decide) gE_2 rfl hE hP hS (fun _ h => h) (fun _ _ h => h) rfl hl.1 rfl (Nat.le_of_ble_eq_true rfl) dX9_week_8 ⟨by decide, by decide⟩ ⟨Nat.zero_le _, Nat.zero_le _⟩ (fun H locs hP hS => ?_)
  refine lv_if_eq (tgt := 21) hx hb dX9_week_11 (by decide) (fun c3 => ?_) (fun c3 => ?_)
  · have h := g_ift c3 h
    refine lv_aload_n hx hb dX9_week_21 rfl (lv_at hl 0 rfl) ?_
    refine lv_ldc hx hb hown (ht _ m_357) dX9_week_22 ?_
    obtain ⟨r5, σ4, hcr5, h⟩ := g_bd h
    refine g_callV (As := [.int (-100001)]) (n := 1) hx hb hml hown ht (c_X9_finding l G _ _ hcr5) m_358 m_360 m_0 m_31 m_361 (by decide +kernel) (by decide) gE_0 rfl hE hP hS (fun _ h => h) (fun _ _ h => h) rfl hl.1 rfl (Nat.le_of_ble_eq_true rfl) dX9_week_24 ⟨by decide, by decide⟩ ⟨Nat.zero_le _, Nat.zero_le _⟩ (fun H locs hP hS => ?_)
    exact g_iret hx hb hr hlk hE hP hS h dX9_week_27
  · have h := g_iff c3 h
    refine lv_iload_n hx hb dX9_week_14 rfl (lv_at hl 2 rfl) ?_
    obtain ⟨r7, σ6, hcr7, h⟩ := g_bd h
    refine g_callS (As := [.int a2]) (n := 1) hx hb hml hown ht (c_X9_isWeek l G _ _ hcr7) m_630 m_631 m_31 m_632 (by decide +kernel) hE hP hS (fun _ h => h) (fun _ _ h => h) rfl hl.1 rfl (Nat.le_of_ble_eq_true rfl) dX9_week_15 ⟨by decide, by decide⟩ ⟨Nat.zero_le _, Nat.zero_le _⟩ (fun H locs hP hS => ?_)
    refine lv_if_ne (tgt := 28) hx hb dX9_week_18 (by decide) (fun c8 => ?_) (fun c8 => ?_)
    · have h := g_iff c8 h
      refine lv_aload_n hx hb dX9_week_28 rfl (lv_at hl 0 rfl) ?_
      refine g_get hx hb ht hown hE hP (by decide) gE_0 uX9 rfl 0 (by decide) m_331 rfl rfl dX9_week_29 ?_
      refine g_get hx hb ht hown hE hP (by decide) gE_1 uX0 rfl 5 (by decide) m_260 rfl rfl dX9_week_32 ?_
      refine g_get hx hb ht hown hE hP (by decide) gE_38 uX6 rfl 4 (by decide) m_234 rfl rfl dX9_week_35 ?_
      refine lv_iload_n hx hb dX9_week_38 rfl (lv_at hl 2 rfl) ?_
      obtain ⟨i9, h⟩ := g_ix h
      refine g_iald hx hb hE hP (by decide) rfl (by decide) i9 dX9_week_39 ?_
      refine lv_if_ne (tgt := 50) hx hb dX9_week_40 (by decide) (fun c10 => ?_) (fun c10 => ?_)
      · have h := g_iff c10 h
        refine lv_aload_n hx hb dX9_week_50 rfl (lv_at hl 0 rfl) ?_
        refine g_get hx hb ht hown hE hP (by decide) gE_0 uX9 rfl 0 (by decide) m_331 rfl rfl dX9_week_51 ?_
        refine g_get hx hb ht hown hE hP (by decide) gE_1 uX0 rfl 5 (by decide) m_260 rfl rfl dX9_week_54 ?_
        refine lv_aload_n hx hb dX9_week_57 rfl (lv_at hl 0 rfl) ?_
        refine g_get hx hb ht hown hE hP (by decide) gE_0 uX9 rfl 0 (by decide) m_331 rfl rfl dX9_week_58 ?_
        refine g_get hx hb ht hown hE hP (by decide) gE_1 uX0 rfl 1 (by decide) m_249 rfl rfl dX9_week_61 ?_
        refine lv_iload_n hx hb dX9_week_64 rfl (lv_at hl 1 rfl) ?_
        refine lv_iload_n hx hb dX9_week_65 rfl (lv_at hl 2 rfl) ?_
        obtain ⟨r12, σ11, hcr12, h⟩ := g_bd h
        refine g_callV (As := [.ref (G.2.2.1 11), .int a1, .int a2]) (n := 3) hx hb hml hown ht (c_X6_reliefOfAll l G _ _ _ hcr12) m_669 m_670 m_671 m_38 m_672 (by decide +kernel) (by decide) gE_38 rfl hE hP hS (fun _ h => h) (fun _ _ h => h) rfl hl.1 rfl (Nat.le_of_ble_eq_true rfl) dX9_week_66 ⟨by decide, by decide⟩ ⟨Nat.zero_le _, Nat.zero_le _⟩ (fun H locs hP hS => ?_)
        exact g_iret hx hb hr hlk hE hP hS h dX9_week_69
      · have h := g_ift c10 h
        refine lv_aload_n hx hb dX9_week_43 rfl (lv_at hl 0 rfl) ?_
        refine lv_ldc hx hb hown (ht _ m_649) dX9_week_44 ?_
        obtain ⟨r14, σ13, hcr14, h⟩ := g_bd h
        refine g_callV (As := [.int (-100002)]) (n := 1) hx hb hml hown ht (c_X9_finding l G _ _ hcr14) m_358 m_360 m_0 m_31 m_361 (by decide +kernel) (by decide) gE_0 rfl hE hP hS (fun _ h => h) (fun _ _ h => h) rfl hl.1 rfl (Nat.le_of_ble_eq_true rfl) dX9_week_46 ⟨by decide, by decide⟩ ⟨Nat.zero_le _, Nat.zero_le _⟩ (fun H locs hP hS => ?_)
        exact g_iret hx hb hr hlk hE hP hS h dX9_week_49
    · have h := g_ift c8 h
      refine lv_aload_n hx hb dX9_week_21 rfl (lv_at hl 0 rfl) ?_
      refine lv_ldc hx hb hown (ht _ m_357) dX9_week_22 ?_
      obtain ⟨r16, σ15, hcr16, h⟩ := g_bd h
      refine g_callV (As := [.int (-100001)]) (n := 1) hx hb hml hown ht (c_X9_finding l G _ _ hcr16) m_358 m_360 m_0 m_31 m_361 (by decide +kernel) (by decide) gE_0 rfl hE hP hS (fun _ h => h) (fun _ _ h => h) rfl hl.1 rfl (Nat.le_of_ble_eq_true rfl) dX9_week_24 ⟨by decide, by decide⟩ ⟨Nat.zero_le _, Nat.zero_le _⟩ (fun H locs hP hS => ?_)
      exact g_iret hx hb hr hlk hE hP hS h dX9_week_27

def M_X9_rate (a1 a2 : Int32) (σ : gSt) : gO :=
  gBd (M_X4_has a1 σ) (fun r2 σ1 => if r2 = 0 then (gBd (M_X9_finding (-100001) σ1) (fun r5 σ4 => some (r5, σ4))) else (gBd (M_X9_within a2 0 10000 σ1) (fun r7 σ6 => if r7 = 0 then (gBd (M_X9_finding (-100001) σ6) (fun r17 σ16 => some (r17, σ16))) else (gBd (M_X4_allWorth σ6) (fun r10 σ9 => if 0 < r10 then (gBd (M_X4_share a1 a2 r10 σ9) (fun r13 σ12 => some (r13, σ12))) else (gBd (M_X9_finding (-100006) σ9) (fun r15 σ14 => some (r15, σ14))))))))
set_option maxHeartbeats 4000000 in
set_option maxRecDepth 100000 in
theorem c_X9_rate (l : Launch) (G : gPar) (a1 a2 : Int32) (σ : gSt) {r : Int32} {σ' : gSt} (h : M_X9_rate a1 a2 σ = some (r, σ')) : gC l G yX9_rate cX9_rate 4 (some .int) 1 28 [.ref (G.2.2.1 0), .int a1, .int a2] σ r σ' := by
  refine gC_of (by decide) (Nat.le_of_ble_eq_true rfl) ?_
  intro p e s m below meth c hx hb hr ht hown hlk hml hE hP ls hl
  have hS : va_S (gA G) s.heap s.heap [] := va_S.rf
  have hl : lv_has ls 4 [(0, .ref (G.2.2.1 0)), (1, .int a1), (2, .int a2)] := hl
  unfold M_X9_rate at h
  refine lv_aload_n hx hb dX9_rate_0 rfl (lv_at hl 0 rfl) ?_
  refine g_get hx hb ht hown hE hP (by decide) gE_0 uX9 rfl 0 (by decide) m_331 rfl rfl dX9_rate_1 ?_
  refine g_get hx hb ht hown hE hP (by decide) gE_1 uX0 rfl 0 (by decide) m_247 rfl rfl dX9_rate_4 ?_
  refine lv_iload_n hx hb dX9_rate_7 rfl (lv_at hl 1 rfl) ?_
  obtain ⟨r2, σ1, hcr2, h⟩ := g_bd h
  refine g_callV (As := [.int a1]) (n := 1) hx hb hml hown ht (c_X4_has l G _ _ hcr2) m_371 m_372 m_373 m_33 m_374 (by decide +kernel) (by decide) gE_2 rfl hE hP hS (fun _ h => h) (fun _ _ h => h) rfl hl.1 rfl (Nat.le_of_ble_eq_true rfl) dX9_rate_8 ⟨by decide, by decide⟩ ⟨Nat.zero_le _, Nat.zero_le _⟩ (fun H locs hP hS => ?_)
  refine lv_if_eq (tgt := 25) hx hb dX9_rate_11 (by decide) (fun c3 => ?_) (fun c3 => ?_)
  · have h := g_ift c3 h
    refine lv_aload_n hx hb dX9_rate_25 rfl (lv_at hl 0 rfl) ?_
    refine lv_ldc hx hb hown (ht _ m_357) dX9_rate_26 ?_
    obtain ⟨r5, σ4, hcr5, h⟩ := g_bd h
    refine g_callV (As := [.int (-100001)]) (n := 1) hx hb hml hown ht (c_X9_finding l G _ _ hcr5) m_358 m_360 m_0 m_31 m_361 (by decide +kernel) (by decide) gE_0 rfl hE hP hS (fun _ h => h) (fun _ _ h => h) rfl hl.1 rfl (Nat.le_of_ble_eq_true rfl) dX9_rate_28 ⟨by decide, by decide⟩ ⟨Nat.zero_le _, Nat.zero_le _⟩ (fun H locs hP hS => ?_)
    exact g_iret hx hb hr hlk hE hP hS h dX9_rate_31
  · have h := g_iff c3 h
    refine lv_iload_n hx hb dX9_rate_14 rfl (lv_at hl 2 rfl) ?_
    refine lv_iconst (v := 0) hx hb dX9_rate_15 (by decide) ?_
    refine lv_sipush (v := 10000) hx hb dX9_rate_16 (by decide) ?_
    obtain ⟨r7, σ6, hcr7, h⟩ := g_bd h
    refine g_callS (As := [.int a2, .int 0, .int 10000]) (n := 3) hx hb hml hown ht (c_X9_within l G _ _ _ _ hcr7) m_354 m_355 m_31 m_356 (by decide +kernel) hE hP hS (fun _ h => h) (fun _ _ h => h) rfl hl.1 rfl (Nat.le_of_ble_eq_true rfl) dX9_rate_19 ⟨by decide, by decide⟩ ⟨Nat.zero_le _, Nat.zero_le _⟩ (fun H locs hP hS => ?_)
    refine lv_if_ne (tgt := 32) hx hb dX9_rate_22 (by decide) (fun c8 => ?_) (fun c8 => ?_)
    · have h := g_iff c8 h
      refine lv_aload_n hx hb dX9_rate_32 rfl (lv_at hl 0 rfl) ?_
      refine g_get hx hb ht hown hE hP (by decide) gE_0 uX9 rfl 0 (by decide) m_331 rfl rfl dX9_rate_33 ?_
      refine g_get hx hb ht hown hE hP (by decide) gE_1 uX0 rfl 0 (by decide) m_247 rfl rfl dX9_rate_36 ?_
      obtain ⟨r10, σ9, hcr10, h⟩ := g_bd h
      refine g_callV (As := []) (n := 0) hx hb hml hown ht (c_X4_allWorth l G _ hcr10) m_678 m_679 m_680 m_33 m_681 (by decide +kernel) (by decide) gE_2 rfl hE hP hS (fun _ h => h) (fun _ _ h => h) rfl hl.1 rfl (Nat.le_of_ble_eq_true rfl) dX9_rate_39 ⟨by decide, by decide⟩ ⟨Nat.zero_le _, Nat.zero_le _⟩ (fun H locs hP hS => ?_)
      refine lv_istore_n (lv' := [(3, .int r10), (0, .ref (G.2.2.1 0)), (1, .int a1), (2, .int a2)]) hx hb dX9_rate_42 rfl hl (by decide) rfl (fun ls hl => ?_)
      refine lv_iload_n hx hb dX9_rate_43 rfl (lv_at hl 0 rfl) ?_
      refine lv_if_gt (tgt := 54) hx hb dX9_rate_44 (by decide) (fun c11 => ?_) (fun c11 => ?_)
      · have h := g_ift c11 h
        refine lv_aload_n hx hb dX9_rate_54 rfl (lv_at hl 1 rfl) ?_
        refine g_get hx hb ht hown hE hP (by decide) gE_0 uX9 rfl 0 (by decide) m_331 rfl rfl dX9_rate_55 ?_
        refine g_get hx hb ht hown hE hP (by decide) gE_1 uX0 rfl 0 (by decide) m_247 rfl rfl dX9_rate_58 ?_
        refine lv_iload_n hx hb dX9_rate_61 rfl (lv_at hl 2 rfl) ?_
        refine lv_iload_n hx hb dX9_rate_62 rfl (lv_at hl 3 rfl) ?_
        refine lv_iload_n hx hb dX9_rate_63 rfl (lv_at hl 0 rfl) ?_
        obtain ⟨r13, σ12, hcr13, h⟩ := g_bd h
        refine g_callV (As := [.int a1, .int a2, .int r10]) (n := 3) hx hb hml hown ht (c_X4_share l G _ _ _ _ hcr13) m_682 m_683 m_684 m_33 m_685 (by decide +kernel) (by decide) gE_2 rfl hE hP hS (fun _ h => h) (fun _ _ h => h) rfl hl.1 rfl (Nat.le_of_ble_eq_true rfl) dX9_rate_64 ⟨by decide, by decide⟩ ⟨Nat.zero_le _, Nat.zero_le _⟩ (fun H locs hP hS => ?_)
        exact g_iret hx hb hr hlk hE hP hS h dX9_rate_67
      · have h := g_iff c11 h
        refine lv_aload_n hx hb dX9_rate_47 rfl (lv_at hl 1 rfl) ?_
        refine lv_ldc hx hb hown (ht _ m_452) dX9_rate_48 ?_
        obtain ⟨r15, σ14, hcr15, h⟩ := g_bd h
        refine g_callV (As := [.int (-100006)]) (n := 1) hx hb hml hown ht (c_X9_finding l G _ _ hcr15) m_358 m_360 m_0 m_31 m_361 (by decide +kernel) (by decide) gE_0 rfl hE hP hS (fun _ h => h) (fun _ _ h => h) rfl hl.1 rfl (Nat.le_of_ble_eq_true rfl) dX9_rate_50 ⟨by decide, by decide⟩ ⟨Nat.zero_le _, Nat.zero_le _⟩ (fun H locs hP hS => ?_)
        exact g_iret hx hb hr hlk hE hP hS h dX9_rate_53
    · have h := g_ift c8 h
      refine lv_aload_n hx hb dX9_rate_25 rfl (lv_at hl 0 rfl) ?_
      refine lv_ldc hx hb hown (ht _ m_357) dX9_rate_26 ?_
      obtain ⟨r17, σ16, hcr17, h⟩ := g_bd h
      refine g_callV (As := [.int (-100001)]) (n := 1) hx hb hml hown ht (c_X9_finding l G _ _ hcr17) m_358 m_360 m_0 m_31 m_361 (by decide +kernel) (by decide) gE_0 rfl hE hP hS (fun _ h => h) (fun _ _ h => h) rfl hl.1 rfl (Nat.le_of_ble_eq_true rfl) dX9_rate_28 ⟨by decide, by decide⟩ ⟨Nat.zero_le _, Nat.zero_le _⟩ (fun H locs hP hS => ?_)
      exact g_iret hx hb hr hlk hE hP hS h dX9_rate_31

def M_X9_sheet (a1 a2 a3 : Int32) (σ : gSt) : gO :=
  gBd (M_X9_isSheet a1 σ) (fun r2 σ1 => if r2 = 0 then (gBd (M_X9_finding (-100001) σ1) (fun r5 σ4 => some (r5, σ4))) else (if a2 = 0 then (if 0 ≤ a3 then (if a3 ≤ 60 then (gIx 4 a1 (if a2 = 0 then (gBd (M_X8_lay a1.toNatClampNeg a2 0 σ1) (fun r15 σ14 => gIx 4 a1 (some ((σ14 (93 + a1.toNatClampNeg) 1), σ14)))) else (gBd (M_X8_lay a1.toNatClampNeg a2 a3 σ1) (fun r12 σ11 => gIx 4 a1 (some ((σ11 (93 + a1.toNatClampNeg) 1), σ11)))))) else (gBd (M_X9_finding (-100001) σ1) (fun r18 σ17 => some (r18, σ17)))) else (gBd (M_X9_finding (-100003) σ1) (fun r20 σ19 => some (r20, σ19)))) else (if a2 = 8 then (if 0 ≤ a3 then (if a3 ≤ 60 then (gIx 4 a1 (if a2 = 0 then (gBd (M_X8_lay a1.toNatClampNeg a2 0 σ1) (fun r30 σ29 => gIx 4 a1 (some ((σ29 (93 + a1.toNatClampNeg) 1), σ29)))) else (gBd (M_X8_lay a1.toNatClampNeg a2 a3 σ1) (fun r27 σ26 => gIx 4 a1 (some ((σ26 (93 + a1.toNatClampNeg) 1), σ26)))))) else (gBd (M_X9_finding (-100001) σ1) (fun r33 σ32 => some (r33, σ32)))) else (gBd (M_X9_finding (-100003) σ1) (fun r35 σ34 => some (r35, σ34)))) else (if a2 = 16 then (if 0 ≤ a3 then (if a3 ≤ 60 then (gIx 4 a1 (if a2 = 0 then (gBd (M_X8_lay a1.toNatClampNeg a2 0 σ1) (fun r45 σ44 => gIx 4 a1 (some ((σ44 (93 + a1.toNatClampNeg) 1), σ44)))) else (gBd (M_X8_lay a1.toNatClampNeg a2 a3 σ1) (fun r42 σ41 => gIx 4 a1 (some ((σ41 (93 + a1.toNatClampNeg) 1), σ41)))))) else (gBd (M_X9_finding (-100001) σ1) (fun r48 σ47 => some (r48, σ47)))) else (gBd (M_X9_finding (-100003) σ1) (fun r50 σ49 => some (r50, σ49)))) else (if a2 = 32 then (if 0 ≤ a3 then (if a3 ≤ 60 then (gIx 4 a1 (if a2 = 0 then (gBd (M_X8_lay a1.toNatClampNeg a2 0 σ1) (fun r60 σ59 => gIx 4 a1 (some ((σ59 (93 + a1.toNatClampNeg) 1), σ59)))) else (gBd (M_X8_lay a1.toNatClampNeg a2 a3 σ1) (fun r57 σ56 => gIx 4 a1 (some ((σ56 (93 + a1.toNatClampNeg) 1), σ56)))))) else (gBd (M_X9_finding (-100001) σ1) (fun r63 σ62 => some (r63, σ62)))) else (gBd (M_X9_finding (-100003) σ1) (fun r65 σ64 => some (r65, σ64)))) else (gBd (M_X9_finding (-100001) σ1) (fun r67 σ66 => some (r67, σ66))))))))
set_option maxHeartbeats 4000000 in
set_option maxRecDepth 100000 in
theorem c_X9_sheet (l : Launch) (G : gPar) (a1 a2 a3 : Int32) (σ : gSt) {r : Int32} {σ' : gSt} (h : M_X9_sheet a1 a2 a3 σ = some (r, σ')) : gC l G yX9_sheet cX9_sheet 4 (some .int) 2 45 [.ref (G.2.2.1 0), .int a1, .int a2, .int a3] σ r σ' := by
  refine gC_of (by decide) (Nat.le_of_ble_eq_true rfl) ?_
  intro p e s m below meth c hx hb hr ht hown hlk hml hE hP ls hl
  have hS : va_S (gA G) s.heap s.heap [] := va_S.rf
  have hl : lv_has ls 4 [(0, .ref (G.2.2.1 0)), (1, .int a1), (2, .int a2), (3, .int a3)] := hl
  unfold M_X9_sheet at h
  refine lv_iload_n hx hb dX9_sheet_0 rfl (lv_at hl 1 rfl) ?_
  obtain ⟨r2, σ1, hcr2, h⟩ := g_bd h
  refine g_callS (As := [.int a1]) (n := 1) hx hb hml hown ht (c_X9_isSheet l G _ _ hcr2) m_690 m_691 m_31 m_692 (by decide +kernel) hE hP hS (fun _ h => h) (fun _ _ h => h) rfl hl.1 rfl (Nat.le_of_ble_eq_true rfl) dX9_sheet_1 ⟨by decide, by decide⟩ ⟨Nat.zero_le _, Nat.zero_le _⟩ (fun H locs hP hS => ?_)
  refine lv_if_eq (tgt := 29) hx hb dX9_sheet_4 (by decide) (fun c3 => ?_) (fun c3 => ?_)
  · have h := g_ift c3 h
    refine lv_aload_n hx hb dX9_sheet_29 rfl (lv_at hl 0 rfl) ?_
    refine lv_ldc hx hb hown (ht _ m_357) dX9_sheet_30 ?_
    obtain ⟨r5, σ4, hcr5, h⟩ := g_bd h
    refine g_callV (As := [.int (-100001)]) (n := 1) hx hb hml hown ht (c_X9_finding l G _ _ hcr5) m_358 m_360 m_0 m_31 m_361 (by decide +kernel) (by decide) gE_0 rfl hE hP hS (fun _ h => h) (fun _ _ h => h) rfl hl.1 rfl (Nat.le_of_ble_eq_true rfl) dX9_sheet_32 ⟨by decide, by decide⟩ ⟨Nat.zero_le _, Nat.zero_le _⟩ (fun H locs hP hS => ?_)
    exact g_iret hx hb hr hlk hE hP hS h dX9_sheet_35
  · have h := g_iff c3 h
    refine lv_iload_n hx hb dX9_sheet_7 rfl (lv_at hl 2 rfl) ?_
    refine lv_if_eq (tgt := 36) hx hb dX9_sheet_8 (by decide) (fun c6 => ?_) (fun c6 => ?_)
    · have h := g_ift c6 h
      refine lv_iload_n hx hb dX9_sheet_36 rfl (lv_at hl 3 rfl) ?_
      refine lv_if_ge (tgt := 47) hx hb dX9_sheet_37 (by decide) (fun c7 => ?_) (fun c7 => ?_)
      · have h := g_ift c7 h
        refine lv_iload_n hx hb dX9_sheet_47 rfl (lv_at hl 3 rfl) ?_
        refine lv_bipush (v := 60) hx hb dX9_sheet_48 (by decide) ?_
        refine lv_icmp_le (tgt := 60) hx hb dX9_sheet_50 (by decide) (fun c8 => ?_) (fun c8 => ?_)
        · have h := g_ift c8 h
          refine lv_aload_n hx hb dX9_sheet_60 rfl (lv_at hl 0 rfl) ?_
          refine g_get hx hb ht hown hE hP (by decide) gE_0 uX9 rfl 3 (by decide) m_334 rfl rfl dX9_sheet_61 ?_
          refine lv_iload_n hx hb dX9_sheet_64 rfl (lv_at hl 1 rfl) ?_
          obtain ⟨i9, h⟩ := g_ix h
          have ji9 := g_lt i9
          refine g_aald hx hb hE hP 2 (by decide) rfl rfl rfl i9 dX9_sheet_65 ?_
          refine lv_iload_n hx hb dX9_sheet_66 rfl (lv_at hl 2 rfl) ?_
          refine lv_iload_n hx hb dX9_sheet_67 rfl (lv_at hl 2 rfl) ?_
          refine lv_if_ne (tgt := 75) hx hb dX9_sheet_68 (by decide) (fun c10 => ?_) (fun c10 => ?_)
          · have h := g_iff c10 h
            refine lv_iload_n hx hb dX9_sheet_75 rfl (lv_at hl 3 rfl) ?_
            obtain ⟨r12, σ11, hcr12, h⟩ := g_bd h
            refine g_callVv (As := [.int a2, .int a3]) (n := 2) hx hb hml hown ht (c_X8_lay l G a1.toNatClampNeg ji9 _ _ _ hcr12) m_693 m_694 m_695 m_40 m_696 (by decide +kernel) (show 93 + a1.toNatClampNeg < 110 by omega) (gE_sheet ji9) rfl hE hP hS (fun _ h => h) (fun _ _ h => h) rfl hl.1 rfl (Nat.le_of_ble_eq_true rfl) dX9_sheet_76 ⟨by decide, by decide⟩ ⟨Nat.zero_le _, Nat.zero_le _⟩ (fun H locs hP hS => ?_)
            refine lv_aload_n hx hb dX9_sheet_79 rfl (lv_at hl 0 rfl) ?_
            refine g_get hx hb ht hown hE hP (by decide) gE_0 uX9 rfl 3 (by decide) m_334 rfl rfl dX9_sheet_80 ?_
            refine lv_iload_n hx hb dX9_sheet_83 rfl (lv_at hl 1 rfl) ?_
            obtain ⟨i13, h⟩ := g_ix h
            have ji13 := g_lt i13
            refine g_aald hx hb hE hP 2 (by decide) rfl rfl rfl i13 dX9_sheet_84 ?_
            refine g_get hx hb ht hown hE hP (show 93 + a1.toNatClampNeg < 110 by omega) (gE_sheet ji13) uX8 rfl 1 (by decide) m_320 rfl rfl dX9_sheet_85 ?_
            exact g_iret hx hb hr hlk hE hP hS h dX9_sheet_88
          · have h := g_ift c10 h
            refine lv_iconst (v := 0) hx hb dX9_sheet_71 (by decide) ?_
            refine lv_goto (tgt := 76) hx hb dX9_sheet_72 (by decide) ?_
            obtain ⟨r15, σ14, hcr15, h⟩ := g_bd h
            refine g_callVv (As := [.int a2, .int 0]) (n := 2) hx hb hml hown ht (c_X8_lay l G a1.toNatClampNeg ji9 _ _ _ hcr15) m_693 m_694 m_695 m_40 m_696 (by decide +kernel) (show 93 + a1.toNatClampNeg < 110 by omega) (gE_sheet ji9) rfl hE hP hS (fun _ h => h) (fun _ _ h => h) rfl hl.1 rfl (Nat.le_of_ble_eq_true rfl) dX9_sheet_76 ⟨by decide, by decide⟩ ⟨Nat.zero_le _, Nat.zero_le _⟩ (fun H locs hP hS => ?_)
            refine lv_aload_n hx hb dX9_sheet_79 rfl (lv_at hl 0 rfl) ?_
            refine g_get hx hb ht hown hE hP (by decide) gE_0 uX9 rfl 3 (by decide) m_334 rfl rfl dX9_sheet_80 ?_
            refine lv_iload_n hx hb dX9_sheet_83 rfl (lv_at hl 1 rfl) ?_
            obtain ⟨i16, h⟩ := g_ix h
            have ji16 := g_lt i16
            refine g_aald hx hb hE hP 2 (by decide) rfl rfl rfl i16 dX9_sheet_84 ?_
            refine g_get hx hb ht hown hE hP (show 93 + a1.toNatClampNeg < 110 by omega) (gE_sheet ji16) uX8 rfl 1 (by decide) m_320 rfl rfl dX9_sheet_85 ?_
            exact g_iret hx hb hr hlk hE hP hS h dX9_sheet_88
        · have h := g_iff c8 h
          refine lv_aload_n hx hb dX9_sheet_53 rfl (lv_at hl 0 rfl) ?_
          refine lv_ldc hx hb hown (ht _ m_357) dX9_sheet_54 ?_
          obtain ⟨r18, σ17, hcr18, h⟩ := g_bd h
          refine g_callV (As := [.int (-100001)]) (n := 1) hx hb hml hown ht (c_X9_finding l G _ _ hcr18) m_358 m_360 m_0 m_31 m_361 (by decide +kernel) (by decide) gE_0 rfl hE hP hS (fun _ h => h) (fun _ _ h => h) rfl hl.1 rfl (Nat.le_of_ble_eq_true rfl) dX9_sheet_56 ⟨by decide, by decide⟩ ⟨Nat.zero_le _, Nat.zero_le _⟩ (fun H locs hP hS => ?_)
          exact g_iret hx hb hr hlk hE hP hS h dX9_sheet_59
      · have h := g_iff c7 h
        refine lv_aload_n hx hb dX9_sheet_40 rfl (lv_at hl 0 rfl) ?_
        refine lv_ldc hx hb hown (ht _ m_375) dX9_sheet_41 ?_
        obtain ⟨r20, σ19, hcr20, h⟩ := g_bd h
        refine g_callV (As := [.int (-100003)]) (n := 1) hx hb hml hown ht (c_X9_finding l G _ _ hcr20) m_358 m_360 m_0 m_31 m_361 (by decide +kernel) (by decide) gE_0 rfl hE hP hS (fun _ h => h) (fun _ _ h => h) rfl hl.1 rfl (Nat.le_of_ble_eq_true rfl) dX9_sheet_43 ⟨by decide, by decide⟩ ⟨Nat.zero_le _, Nat.zero_le _⟩ (fun H locs hP hS => ?_)
        exact g_iret hx hb hr hlk hE hP hS h dX9_sheet_46
    · have h := g_iff c6 h
      refine lv_iload_n hx hb dX9_sheet_11 rfl (lv_at hl 2 rfl) ?_
      refine lv_bipush (v := 8) hx hb dX9_sheet_12 (by decide) ?_
      refine lv_icmp_eq (tgt := 36) hx hb dX9_sheet_14 (by decide) (fun c21 => ?_) (fun c21 => ?_)
      · have h := g_ift c21 h
        refine lv_iload_n hx hb dX9_sheet_36 rfl (lv_at hl 3 rfl) ?_
        refine lv_if_ge (tgt := 47) hx hb dX9_sheet_37 (by decide) (fun c22 => ?_) (fun c22 => ?_)
        · have h := g_ift c22 h
          refine lv_iload_n hx hb dX9_sheet_47 rfl (lv_at hl 3 rfl) ?_
          refine lv_bipush (v := 60) hx hb dX9_sheet_48 (by decide) ?_
          refine lv_icmp_le (tgt := 60) hx hb dX9_sheet_50 (by decide) (fun c23 => ?_) (fun c23 => ?_)
          · have h := g_ift c23 h
            refine lv_aload_n hx hb dX9_sheet_60 rfl (lv_at hl 0 rfl) ?_
            refine g_get hx hb ht hown hE hP (by decide) gE_0 uX9 rfl 3 (by decide) m_334 rfl rfl dX9_sheet_61 ?_
            refine lv_iload_n hx hb dX9_sheet_64 rfl (lv_at hl 1 rfl) ?_
            obtain ⟨i24, h⟩ := g_ix h
            have ji24 := g_lt i24
            refine g_aald hx hb hE hP 2 (by decide) rfl rfl rfl i24 dX9_sheet_65 ?_
            refine lv_iload_n hx hb dX9_sheet_66 rfl (lv_at hl 2 rfl) ?_
            refine lv_iload_n hx hb dX9_sheet_67 rfl (lv_at hl 2 rfl) ?_
            refine lv_if_ne (tgt := 75) hx hb dX9_sheet_68 (by decide) (fun c25 => ?_) (fun c25 => ?_)
            · have h := g_iff c25 h
              refine lv_iload_n hx hb dX9_sheet_75 rfl (lv_at hl 3 rfl) ?_
              obtain ⟨r27, σ26, hcr27, h⟩ := g_bd h
              refine g_callVv (As := [.int a2, .int a3]) (n := 2) hx hb hml hown ht (c_X8_lay l G a1.toNatClampNeg ji24 _ _ _ hcr27) m_693 m_694 m_695 m_40 m_696 (by decide +kernel) (show 93 + a1.toNatClampNeg < 110 by omega) (gE_sheet ji24) rfl hE hP hS (fun _ h => h) (fun _ _ h => h) rfl hl.1 rfl (Nat.le_of_ble_eq_true rfl) dX9_sheet_76 ⟨by decide, by decide⟩ ⟨Nat.zero_le _, Nat.zero_le _⟩ (fun H locs hP hS => ?_)
              refine lv_aload_n hx hb dX9_sheet_79 rfl (lv_at hl 0 rfl) ?_
              refine g_get hx hb ht hown hE hP (by decide) gE_0 uX9 rfl 3 (by decide) m_334 rfl rfl dX9_sheet_80 ?_
              refine lv_iload_n hx hb dX9_sheet_83 rfl (lv_at hl 1 rfl) ?_
              obtain ⟨i28, h⟩ := g_ix h
              have ji28 := g_lt i28
              refine g_aald hx hb hE hP 2 (by decide) rfl rfl rfl i28 dX9_sheet_84 ?_
              refine g_get hx hb ht hown hE hP (show 93 + a1.toNatClampNeg < 110 by omega) (gE_sheet ji28) uX8 rfl 1 (by decide) m_320 rfl rfl dX9_sheet_85 ?_
              exact g_iret hx hb hr hlk hE hP hS h dX9_sheet_88
            · have h := g_ift c25 h
              refine lv_iconst (v := 0) hx hb dX9_sheet_71 (by decide) ?_
              refine lv_goto (tgt := 76) hx hb dX9_sheet_72 (by decide) ?_
              obtain ⟨r30, σ29, hcr30, h⟩ := g_bd h
              refine g_callVv (As := [.int a2, .int 0]) (n := 2) hx hb hml hown ht (c_X8_lay l G a1.toNatClampNeg ji24 _ _ _ hcr30) m_693 m_694 m_695 m_40 m_696 (by decide +kernel) (show 93 + a1.toNatClampNeg < 110 by omega) (gE_sheet ji24) rfl hE hP hS (fun _ h => h) (fun _ _ h => h) rfl hl.1 rfl (Nat.le_of_ble_eq_true rfl) dX9_sheet_76 ⟨by decide, by decide⟩ ⟨Nat.zero_le _, Nat.zero_le _⟩ (fun H locs hP hS => ?_)
              refine lv_aload_n hx hb dX9_sheet_79 rfl (lv_at hl 0 rfl) ?_
              refine g_get hx hb ht hown hE hP (by decide) gE_0 uX9 rfl 3 (by decide) m_334 rfl rfl dX9_sheet_80 ?_
              refine lv_iload_n hx hb dX9_sheet_83 rfl (lv_at hl 1 rfl) ?_
              obtain ⟨i31, h⟩ := g_ix h
              have ji31 := g_lt i31
              refine g_aald hx hb hE hP 2 (by decide) rfl rfl rfl i31 dX9_sheet_84 ?_
              refine g_get hx hb ht hown hE hP (show 93 + a1.toNatClampNeg < 110 by omega) (gE_sheet ji31) uX8 rfl 1 (by decide) m_320 rfl rfl dX9_sheet_85 ?_
              exact g_iret hx hb hr hlk hE hP hS h dX9_sheet_88
          · have h := g_iff c23 h
            refine lv_aload_n hx hb dX9_sheet_53 rfl (lv_at hl 0 rfl) ?_
            refine lv_ldc hx hb hown (ht _ m_357) dX9_sheet_54 ?_
            obtain ⟨r33, σ32, hcr33, h⟩ := g_bd h
            refine g_callV (As := [.int (-100001)]) (n := 1) hx hb hml hown ht (c_X9_finding l G _ _ hcr33) m_358 m_360 m_0 m_31 m_361 (by decide +kernel) (by decide) gE_0 rfl hE hP hS (fun _ h => h) (fun _ _ h => h) rfl hl.1 rfl (Nat.le_of_ble_eq_true rfl) dX9_sheet_56 ⟨by decide, by decide⟩ ⟨Nat.zero_le _, Nat.zero_le _⟩ (fun H locs hP hS => ?_)
            exact g_iret hx hb hr hlk hE hP hS h dX9_sheet_59
        · have h := g_iff c22 h
          refine lv_aload_n hx hb dX9_sheet_40 rfl (lv_at hl 0 rfl) ?_
          refine lv_ldc hx hb hown (ht _ m_375) dX9_sheet_41 ?_
          obtain ⟨r35, σ34, hcr35, h⟩ := g_bd h
          refine g_callV (As := [.int (-100003)]) (n := 1) hx hb hml hown ht (c_X9_finding l G _ _ hcr35) m_358 m_360 m_0 m_31 m_361 (by decide +kernel) (by decide) gE_0 rfl hE hP hS (fun _ h => h) (fun _ _ h => h) rfl hl.1 rfl (Nat.le_of_ble_eq_true rfl) dX9_sheet_43 ⟨by decide, by decide⟩ ⟨Nat.zero_le _, Nat.zero_le _⟩ (fun H locs hP hS => ?_)
          exact g_iret hx hb hr hlk hE hP hS h dX9_sheet_46
      · have h := g_iff c21 h
        refine lv_iload_n hx hb dX9_sheet_17 rfl (lv_at hl 2 rfl) ?_
        refine lv_bipush (v := 16) hx hb dX9_sheet_18 (by decide) ?_
        refine lv_icmp_eq (tgt := 36) hx hb dX9_sheet_20 (by decide) (fun c36 => ?_) (fun c36 => ?_)
        · have h := g_ift c36 h
          refine lv_iload_n hx hb dX9_sheet_36 rfl (lv_at hl 3 rfl) ?_
          refine lv_if_ge (tgt := 47) hx hb dX9_sheet_37 (by decide) (fun c37 => ?_) (fun c37 => ?_)
          · have h := g_ift c37 h
            refine lv_iload_n hx hb dX9_sheet_47 rfl (lv_at hl 3 rfl) ?_
            refine lv_bipush (v := 60) hx hb dX9_sheet_48 (by decide) ?_
            refine lv_icmp_le (tgt := 60) hx hb dX9_sheet_50 (by decide) (fun c38 => ?_) (fun c38 => ?_)
            · have h := g_ift c38 h
              refine lv_aload_n hx hb dX9_sheet_60 rfl (lv_at hl 0 rfl) ?_
              refine g_get hx hb ht hown hE hP (by decide) gE_0 uX9 rfl 3 (by decide) m_334 rfl rfl dX9_sheet_61 ?_
              refine lv_iload_n hx hb dX9_sheet_64 rfl (lv_at hl 1 rfl) ?_
              obtain ⟨i39, h⟩ := g_ix h
              have ji39 := g_lt i39
              refine g_aald hx hb hE hP 2 (by decide) rfl rfl rfl i39 dX9_sheet_65 ?_
              refine lv_iload_n hx hb dX9_sheet_66 rfl (lv_at hl 2 rfl) ?_
              refine lv_iload_n hx hb dX9_sheet_67 rfl (lv_at hl 2 rfl) ?_
              refine lv_if_ne (tgt := 75) hx hb dX9_sheet_68 (by decide) (fun c40 => ?_) (fun c40 => ?_)
              · have h := g_iff c40 h
                refine lv_iload_n hx hb dX9_sheet_75 rfl (lv_at hl 3 rfl) ?_
                obtain ⟨r42, σ41, hcr42, h⟩ := g_bd h
                refine g_callVv (As := [.int a2, .int a3]) (n := 2) hx hb hml hown ht (c_X8_lay l G a1.toNatClampNeg ji39 _ _ _ hcr42) m_693 m_694 m_695 m_40 m_696 (by decide +kernel) (show 93 + a1.toNatClampNeg < 110 by omega) (gE_sheet ji39) rfl hE hP hS (fun _ h => h) (fun _ _ h => h) rfl hl.1 rfl (Nat.le_of_ble_eq_true rfl) dX9_sheet_76 ⟨by decide, by decide⟩ ⟨Nat.zero_le _, Nat.zero_le _⟩ (fun H locs hP hS => ?_)
                refine lv_aload_n hx hb dX9_sheet_79 rfl (lv_at hl 0 rfl) ?_
                refine g_get hx hb ht hown hE hP (by decide) gE_0 uX9 rfl 3 (by decide) m_334 rfl rfl dX9_sheet_80 ?_
                refine lv_iload_n hx hb dX9_sheet_83 rfl (lv_at hl 1 rfl) ?_
                obtain ⟨i43, h⟩ := g_ix h
                have ji43 := g_lt i43
                refine g_aald hx hb hE hP 2 (by decide) rfl rfl rfl i43 dX9_sheet_84 ?_
                refine g_get hx hb ht hown hE hP (show 93 + a1.toNatClampNeg < 110 by omega) (gE_sheet ji43) uX8 rfl 1 (by decide) m_320 rfl rfl dX9_sheet_85 ?_
                exact g_iret hx hb hr hlk hE hP hS h dX9_sheet_88
              · have h := g_ift c40 h
                refine lv_iconst (v := 0) hx hb dX9_sheet_71 (by decide) ?_
                refine lv_goto (tgt := 76) hx hb dX9_sheet_72 (by decide) ?_
                obtain ⟨r45, σ44, hcr45, h⟩ := g_bd h
                refine g_callVv (As := [.int a2, .int 0]) (n := 2) hx hb hml hown ht (c_X8_lay l G a1.toNatClampNeg ji39 _ _ _ hcr45) m_693 m_694 m_695 m_40 m_696 (by decide +kernel) (show 93 + a1.toNatClampNeg < 110 by omega) (gE_sheet ji39) rfl hE hP hS (fun _ h => h) (fun _ _ h => h) rfl hl.1 rfl (Nat.le_of_ble_eq_true rfl) dX9_sheet_76 ⟨by decide, by decide⟩ ⟨Nat.zero_le _, Nat.zero_le _⟩ (fun H locs hP hS => ?_)
                refine lv_aload_n hx hb dX9_sheet_79 rfl (lv_at hl 0 rfl) ?_
                refine g_get hx hb ht hown hE hP (by decide) gE_0 uX9 rfl 3 (by decide) m_334 rfl rfl dX9_sheet_80 ?_
                refine lv_iload_n hx hb dX9_sheet_83 rfl (lv_at hl 1 rfl) ?_
                obtain ⟨i46, h⟩ := g_ix h
                have ji46 := g_lt i46
                refine g_aald hx hb hE hP 2 (by decide) rfl rfl rfl i46 dX9_sheet_84 ?_
                refine g_get hx hb ht hown hE hP (show 93 + a1.toNatClampNeg < 110 by omega) (gE_sheet ji46) uX8 rfl 1 (by decide) m_320 rfl rfl dX9_sheet_85 ?_
                exact g_iret hx hb hr hlk hE hP hS h dX9_sheet_88
            · have h := g_iff c38 h
              refine lv_aload_n hx hb dX9_sheet_53 rfl (lv_at hl 0 rfl) ?_
              refine lv_ldc hx hb hown (ht _ m_357) dX9_sheet_54 ?_
              obtain ⟨r48, σ47, hcr48, h⟩ := g_bd h
              refine g_callV (As := [.int (-100001)]) (n := 1) hx hb hml hown ht (c_X9_finding l G _ _ hcr48) m_358 m_360 m_0 m_31 m_361 (by decide +kernel) (by decide) gE_0 rfl hE hP hS (fun _ h => h) (fun _ _ h => h) rfl hl.1 rfl (Nat.le_of_ble_eq_true rfl) dX9_sheet_56 ⟨by decide, by decide⟩ ⟨Nat.zero_le _, Nat.zero_le _⟩ (fun H locs hP hS => ?_)
              exact g_iret hx hb hr hlk hE hP hS h dX9_sheet_59
          · have h := g_iff c37 h
            refine lv_aload_n hx hb dX9_sheet_40 rfl (lv_at hl 0 rfl) ?_
            refine lv_ldc hx hb hown (ht _ m_375) dX9_sheet_41 ?_
            obtain ⟨r50, σ49, hcr50, h⟩ := g_bd h
            refine g_callV (As := [.int (-100003)]) (n := 1) hx hb hml hown ht (c_X9_finding l G _ _ hcr50) m_358 m_360 m_0 m_31 m_361 (by decide +kernel) (by decide) gE_0 rfl hE hP hS (fun _ h => h) (fun _ _ h => h) rfl hl.1 rfl (Nat.le_of_ble_eq_true rfl) dX9_sheet_43 ⟨by decide, by decide⟩ ⟨Nat.zero_le _, Nat.zero_le _⟩ (fun H locs hP hS => ?_)
            exact g_iret hx hb hr hlk hE hP hS h dX9_sheet_46
        · have h := g_iff c36 h
          refine lv_iload_n hx hb dX9_sheet_23 rfl (lv_at hl 2 rfl) ?_
          refine lv_bipush (v := 32) hx hb dX9_sheet_24 (by decide) ?_
          refine lv_icmp_eq (tgt := 36) hx hb dX9_sheet_26 (by decide) (fun c51 => ?_) (fun c51 => ?_)
          · have h := g_ift c51 h
            refine lv_iload_n hx hb dX9_sheet_36 rfl (lv_at hl 3 rfl) ?_
            refine lv_if_ge (tgt := 47) hx hb dX9_sheet_37 (by decide) (fun c52 => ?_) (fun c52 => ?_)
            · have h := g_ift c52 h
              refine lv_iload_n hx hb dX9_sheet_47 rfl (lv_at hl 3 rfl) ?_
              refine lv_bipush (v := 60) hx hb dX9_sheet_48 (by decide) ?_
              refine lv_icmp_le (tgt := 60) hx hb dX9_sheet_50 (by decide) (fun c53 => ?_) (fun c53 => ?_)
              · have h := g_ift c53 h
                refine lv_aload_n hx hb dX9_sheet_60 rfl (lv_at hl 0 rfl) ?_
                refine g_get hx hb ht hown hE hP (by decide) gE_0 uX9 rfl 3 (by decide) m_334 rfl rfl dX9_sheet_61 ?_
                refine lv_iload_n hx hb dX9_sheet_64 rfl (lv_at hl 1 rfl) ?_
                obtain ⟨i54, h⟩ := g_ix h
                have ji54 := g_lt i54
                refine g_aald hx hb hE hP 2 (by decide) rfl rfl rfl i54 dX9_sheet_65 ?_
                refine lv_iload_n hx hb dX9_sheet_66 rfl (lv_at hl 2 rfl) ?_
                refine lv_iload_n hx hb dX9_sheet_67 rfl (lv_at hl 2 rfl) ?_
                refine lv_if_ne (tgt := 75) hx hb dX9_sheet_68 (by decide) (fun c55 => ?_) (fun c55 => ?_)
                · have h := g_iff c55 h
                  refine lv_iload_n hx hb dX9_sheet_75 rfl (lv_at hl 3 rfl) ?_
                  obtain ⟨r57, σ56, hcr57, h⟩ := g_bd h
                  refine g_callVv (As := [.int a2, .int a3]) (n := 2) hx hb hml hown ht (c_X8_lay l G a1.toNatClampNeg ji54 _ _ _ hcr57) m_693 m_694 m_695 m_40 m_696 (by decide +kernel) (show 93 + a1.toNatClampNeg < 110 by omega) (gE_sheet ji54) rfl hE hP hS (fun _ h => h) (fun _ _ h => h) rfl hl.1 rfl (Nat.le_of_ble_eq_true rfl) dX9_sheet_76 ⟨by decide, by decide⟩ ⟨Nat.zero_le _, Nat.zero_le _⟩ (fun H locs hP hS => ?_)
                  refine lv_aload_n hx hb dX9_sheet_79 rfl (lv_at hl 0 rfl) ?_
                  refine g_get hx hb ht hown hE hP (by decide) gE_0 uX9 rfl 3 (by decide) m_334 rfl rfl dX9_sheet_80 ?_
                  refine lv_iload_n hx hb dX9_sheet_83 rfl (lv_at hl 1 rfl) ?_
                  obtain ⟨i58, h⟩ := g_ix h
                  have ji58 := g_lt i58
                  refine g_aald hx hb hE hP 2 (by decide) rfl rfl rfl i58 dX9_sheet_84 ?_
                  refine g_get hx hb ht hown hE hP (show 93 + a1.toNatClampNeg < 110 by omega) (gE_sheet ji58) uX8 rfl 1 (by decide) m_320 rfl rfl dX9_sheet_85 ?_
                  exact g_iret hx hb hr hlk hE hP hS h dX9_sheet_88
                · have h := g_ift c55 h
                  refine lv_iconst (v := 0) hx hb dX9_sheet_71 (by decide) ?_
                  refine lv_goto (tgt := 76) hx hb dX9_sheet_72 (by decide) ?_
                  obtain ⟨r60, σ59, hcr60, h⟩ := g_bd h
                  refine g_callVv (As := [.int a2, .int 0]) (n := 2) hx hb hml hown ht (c_X8_lay l G a1.toNatClampNeg ji54 _ _ _ hcr60) m_693 m_694 m_695 m_40 m_696 (by decide +kernel) (show 93 + a1.toNatClampNeg < 110 by omega) (gE_sheet ji54) rfl hE hP hS (fun _ h => h) (fun _ _ h => h) rfl hl.1 rfl (Nat.le_of_ble_eq_true rfl) dX9_sheet_76 ⟨by decide, by decide⟩ ⟨Nat.zero_le _, Nat.zero_le _⟩ (fun H locs hP hS => ?_)
                  refine lv_aload_n hx hb dX9_sheet_79 rfl (lv_at hl 0 rfl) ?_
                  refine g_get hx hb ht hown hE hP (by decide) gE_0 uX9 rfl 3 (by decide) m_334 rfl rfl dX9_sheet_80 ?_
                  refine lv_iload_n hx hb dX9_sheet_83 rfl (lv_at hl 1 rfl) ?_
                  obtain ⟨i61, h⟩ := g_ix h
                  have ji61 := g_lt i61
                  refine g_aald hx hb hE hP 2 (by decide) rfl rfl rfl i61 dX9_sheet_84 ?_
                  refine g_get hx hb ht hown hE hP (show 93 + a1.toNatClampNeg < 110 by omega) (gE_sheet ji61) uX8 rfl 1 (by decide) m_320 rfl rfl dX9_sheet_85 ?_
                  exact g_iret hx hb hr hlk hE hP hS h dX9_sheet_88
              · have h := g_iff c53 h
                refine lv_aload_n hx hb dX9_sheet_53 rfl (lv_at hl 0 rfl) ?_
                refine lv_ldc hx hb hown (ht _ m_357) dX9_sheet_54 ?_
                obtain ⟨r63, σ62, hcr63, h⟩ := g_bd h
                refine g_callV (As := [.int (-100001)]) (n := 1) hx hb hml hown ht (c_X9_finding l G _ _ hcr63) m_358 m_360 m_0 m_31 m_361 (by decide +kernel) (by decide) gE_0 rfl hE hP hS (fun _ h => h) (fun _ _ h => h) rfl hl.1 rfl (Nat.le_of_ble_eq_true rfl) dX9_sheet_56 ⟨by decide, by decide⟩ ⟨Nat.zero_le _, Nat.zero_le _⟩ (fun H locs hP hS => ?_)
                exact g_iret hx hb hr hlk hE hP hS h dX9_sheet_59
            · have h := g_iff c52 h
              refine lv_aload_n hx hb dX9_sheet_40 rfl (lv_at hl 0 rfl) ?_
              refine lv_ldc hx hb hown (ht _ m_375) dX9_sheet_41 ?_
              obtain ⟨r65, σ64, hcr65, h⟩ := g_bd h
              refine g_callV (As := [.int (-100003)]) (n := 1) hx hb hml hown ht (c_X9_finding l G _ _ hcr65) m_358 m_360 m_0 m_31 m_361 (by decide +kernel) (by decide) gE_0 rfl hE hP hS (fun _ h => h) (fun _ _ h => h) rfl hl.1 rfl (Nat.le_of_ble_eq_true rfl) dX9_sheet_43 ⟨by decide, by decide⟩ ⟨Nat.zero_le _, Nat.zero_le _⟩ (fun H locs hP hS => ?_)
              exact g_iret hx hb hr hlk hE hP hS h dX9_sheet_46
          · have h := g_iff c51 h
            refine lv_aload_n hx hb dX9_sheet_29 rfl (lv_at hl 0 rfl) ?_
            refine lv_ldc hx hb hown (ht _ m_357) dX9_sheet_30 ?_
            obtain ⟨r67, σ66, hcr67, h⟩ := g_bd h
            refine g_callV (As := [.int (-100001)]) (n := 1) hx hb hml hown ht (c_X9_finding l G _ _ hcr67) m_358 m_360 m_0 m_31 m_361 (by decide +kernel) (by decide) gE_0 rfl hE hP hS (fun _ h => h) (fun _ _ h => h) rfl hl.1 rfl (Nat.le_of_ble_eq_true rfl) dX9_sheet_32 ⟨by decide, by decide⟩ ⟨Nat.zero_le _, Nat.zero_le _⟩ (fun H locs hP hS => ?_)
            exact g_iret hx hb hr hlk hE hP hS h dX9_sheet_35

def M_X9_put (a1 a2 a3 : Int32) (σ : gSt) : gO :=
  gBd (M_X9_isSheet a1 σ) (fun r2 σ1 => if r2 = 0 then (gBd (M_X9_finding (-100001) σ1) (fun r21 σ20 => some (r21, σ20))) else (gIx 4 a1 (gBd (M_X8_isMissing a1.toNatClampNeg σ1) (fun r6 σ5 => if r6 = 0 then (if a2 < 0 then (gBd (M_X9_finding (-100001) σ5) (fun r10 σ9 => some (r10, σ9))) else (gIx 4 a1 (if a2 < (σ5 (93 + a1.toNatClampNeg) 1) then (gIx 4 a1 (gBd (M_X8_write a1.toNatClampNeg a2 a3 σ5) (fun r15 σ14 => some (0, σ14)))) else (gBd (M_X9_finding (-100001) σ5) (fun r17 σ16 => some (r17, σ16)))))) else (gBd (M_X9_finding (-100002) σ5) (fun r19 σ18 => some (r19, σ18)))))))
set_option maxHeartbeats 4000000 in
set_option maxRecDepth 100000 in
theorem c_X9_put (l : Launch) (G : gPar) (a1 a2 a3 : Int32) (σ : gSt) {r : Int32} {σ' : gSt} (h : M_X9_put a1 a2 a3 σ = some (r, σ')) : gC l G yX9_put cX9_put 4 (some .int) 2 42 [.ref (G.2.2.1 0), .int a1, .int a2, .int a3] σ r σ' := by
  refine gC_of (by decide) (Nat.le_of_ble_eq_true rfl) ?_
  intro p e s m below meth c hx hb hr ht hown hlk hml hE hP ls hl
  have hS : va_S (gA G) s.heap s.heap [] := va_S.rf
  have hl : lv_has ls 4 [(0, .ref (G.2.2.1 0)), (1, .int a1), (2, .int a2), (3, .int a3)] := hl
  unfold M_X9_put at h
  refine lv_iload_n hx hb dX9_put_0 rfl (lv_at hl 1 rfl) ?_
  obtain ⟨r2, σ1, hcr2, h⟩ := g_bd h
  refine g_callS (As := [.int a1]) (n := 1) hx hb hml hown ht (c_X9_isSheet l G _ _ hcr2) m_690 m_691 m_31 m_692 (by decide +kernel) hE hP hS (fun _ h => h) (fun _ _ h => h) rfl hl.1 rfl (Nat.le_of_ble_eq_true rfl) dX9_put_1 ⟨by decide, by decide⟩ ⟨Nat.zero_le _, Nat.zero_le _⟩ (fun H locs hP hS => ?_)
  refine lv_if_ne (tgt := 14) hx hb dX9_put_4 (by decide) (fun c3 => ?_) (fun c3 => ?_)
  · have h := g_iff c3 h
    refine lv_aload_n hx hb dX9_put_14 rfl (lv_at hl 0 rfl) ?_
    refine g_get hx hb ht hown hE hP (by decide) gE_0 uX9 rfl 3 (by decide) m_334 rfl rfl dX9_put_15 ?_
    refine lv_iload_n hx hb dX9_put_18 rfl (lv_at hl 1 rfl) ?_
    obtain ⟨i4, h⟩ := g_ix h
    have ji4 := g_lt i4
    refine g_aald hx hb hE hP 2 (by decide) rfl rfl rfl i4 dX9_put_19 ?_
    obtain ⟨r6, σ5, hcr6, h⟩ := g_bd h
    refine g_callV (As := []) (n := 0) hx hb hml hown ht (c_X8_isMissing l G a1.toNatClampNeg ji4 _ hcr6) m_704 m_705 m_706 m_40 m_707 (by decide +kernel) (show 93 + a1.toNatClampNeg < 110 by omega) (gE_sheet ji4) rfl hE hP hS (fun _ h => h) (fun _ _ h => h) rfl hl.1 rfl (Nat.le_of_ble_eq_true rfl) dX9_put_20 ⟨by decide, by decide⟩ ⟨Nat.zero_le _, Nat.zero_le _⟩ (fun H locs hP hS => ?_)
    refine lv_if_eq (tgt := 33) hx hb dX9_put_23 (by decide) (fun c7 => ?_) (fun c7 => ?_)
    · have h := g_ift c7 h
      refine lv_iload_n hx hb dX9_put_33 rfl (lv_at hl 2 rfl) ?_
      refine lv_if_lt (tgt := 50) hx hb dX9_put_34 (by decide) (fun c8 => ?_) (fun c8 => ?_)
      · have h := g_ift c8 h
        refine lv_aload_n hx hb dX9_put_50 rfl (lv_at hl 0 rfl) ?_
        refine lv_ldc hx hb hown (ht _ m_357) dX9_put_51 ?_
        obtain ⟨r10, σ9, hcr10, h⟩ := g_bd h
        refine g_callV (As := [.int (-100001)]) (n := 1) hx hb hml hown ht (c_X9_finding l G _ _ hcr10) m_358 m_360 m_0 m_31 m_361 (by decide +kernel) (by decide) gE_0 rfl hE hP hS (fun _ h => h) (fun _ _ h => h) rfl hl.1 rfl (Nat.le_of_ble_eq_true rfl) dX9_put_53 ⟨by decide, by decide⟩ ⟨Nat.zero_le _, Nat.zero_le _⟩ (fun H locs hP hS => ?_)
        exact g_iret hx hb hr hlk hE hP hS h dX9_put_56
      · have h := g_iff c8 h
        refine lv_iload_n hx hb dX9_put_37 rfl (lv_at hl 2 rfl) ?_
        refine lv_aload_n hx hb dX9_put_38 rfl (lv_at hl 0 rfl) ?_
        refine g_get hx hb ht hown hE hP (by decide) gE_0 uX9 rfl 3 (by decide) m_334 rfl rfl dX9_put_39 ?_
        refine lv_iload_n hx hb dX9_put_42 rfl (lv_at hl 1 rfl) ?_
        obtain ⟨i11, h⟩ := g_ix h
        have ji11 := g_lt i11
        refine g_aald hx hb hE hP 2 (by decide) rfl rfl rfl i11 dX9_put_43 ?_
        refine g_get hx hb ht hown hE hP (show 93 + a1.toNatClampNeg < 110 by omega) (gE_sheet ji11) uX8 rfl 1 (by decide) m_320 rfl rfl dX9_put_44 ?_
        refine lv_icmp_lt (tgt := 57) hx hb dX9_put_47 (by decide) (fun c12 => ?_) (fun c12 => ?_)
        · have h := g_ift c12 h
          refine lv_aload_n hx hb dX9_put_57 rfl (lv_at hl 0 rfl) ?_
          refine g_get hx hb ht hown hE hP (by decide) gE_0 uX9 rfl 3 (by decide) m_334 rfl rfl dX9_put_58 ?_
          refine lv_iload_n hx hb dX9_put_61 rfl (lv_at hl 1 rfl) ?_
          obtain ⟨i13, h⟩ := g_ix h
          have ji13 := g_lt i13
          refine g_aald hx hb hE hP 2 (by decide) rfl rfl rfl i13 dX9_put_62 ?_
          refine lv_iload_n hx hb dX9_put_63 rfl (lv_at hl 2 rfl) ?_
          refine lv_iload_n hx hb dX9_put_64 rfl (lv_at hl 3 rfl) ?_
          obtain ⟨r15, σ14, hcr15, h⟩ := g_bd h
          refine g_callVv (As := [.int a2, .int a3]) (n := 2) hx hb hml hown ht (c_X8_write l G a1.toNatClampNeg ji13 _ _ _ hcr15) m_708 m_709 m_710 m_40 m_711 (by decide +kernel) (show 93 + a1.toNatClampNeg < 110 by omega) (gE_sheet ji13) rfl hE hP hS (fun _ h => h) (fun _ _ h => h) rfl hl.1 rfl (Nat.le_of_ble_eq_true rfl) dX9_put_65 ⟨by decide, by decide⟩ ⟨Nat.zero_le _, Nat.zero_le _⟩ (fun H locs hP hS => ?_)
          refine lv_iconst (v := 0) hx hb dX9_put_68 (by decide) ?_
          exact g_iret hx hb hr hlk hE hP hS h dX9_put_69
        · have h := g_iff c12 h
          refine lv_aload_n hx hb dX9_put_50 rfl (lv_at hl 0 rfl) ?_
          refine lv_ldc hx hb hown (ht _ m_357) dX9_put_51 ?_
          obtain ⟨r17, σ16, hcr17, h⟩ := g_bd h
          refine g_callV (As := [.int (-100001)]) (n := 1) hx hb hml hown ht (c_X9_finding l G _ _ hcr17) m_358 m_360 m_0 m_31 m_361 (by decide +kernel) (by decide) gE_0 rfl hE hP hS (fun _ h => h) (fun _ _ h => h) rfl hl.1 rfl (Nat.le_of_ble_eq_true rfl) dX9_put_53 ⟨by decide, by decide⟩ ⟨Nat.zero_le _, Nat.zero_le _⟩ (fun H locs hP hS => ?_)
          exact g_iret hx hb hr hlk hE hP hS h dX9_put_56
    · have h := g_iff c7 h
      refine lv_aload_n hx hb dX9_put_26 rfl (lv_at hl 0 rfl) ?_
      refine lv_ldc hx hb hown (ht _ m_649) dX9_put_27 ?_
      obtain ⟨r19, σ18, hcr19, h⟩ := g_bd h
      refine g_callV (As := [.int (-100002)]) (n := 1) hx hb hml hown ht (c_X9_finding l G _ _ hcr19) m_358 m_360 m_0 m_31 m_361 (by decide +kernel) (by decide) gE_0 rfl hE hP hS (fun _ h => h) (fun _ _ h => h) rfl hl.1 rfl (Nat.le_of_ble_eq_true rfl) dX9_put_29 ⟨by decide, by decide⟩ ⟨Nat.zero_le _, Nat.zero_le _⟩ (fun H locs hP hS => ?_)
      exact g_iret hx hb hr hlk hE hP hS h dX9_put_32
  · have h := g_ift c3 h
    refine lv_aload_n hx hb dX9_put_7 rfl (lv_at hl 0 rfl) ?_
    refine lv_ldc hx hb hown (ht _ m_357) dX9_put_8 ?_
    obtain ⟨r21, σ20, hcr21, h⟩ := g_bd h
    refine g_callV (As := [.int (-100001)]) (n := 1) hx hb hml hown ht (c_X9_finding l G _ _ hcr21) m_358 m_360 m_0 m_31 m_361 (by decide +kernel) (by decide) gE_0 rfl hE hP hS (fun _ h => h) (fun _ _ h => h) rfl hl.1 rfl (Nat.le_of_ble_eq_true rfl) dX9_put_10 ⟨by decide, by decide⟩ ⟨Nat.zero_le _, Nat.zero_le _⟩ (fun H locs hP hS => ?_)
    exact g_iret hx hb hr hlk hE hP hS h dX9_put_13

def M_X9_copy (a1 a2 a3 a4 a5 : Int32) (σ : gSt) : gO :=
  gBd (M_X9_isSheet a1 σ) (fun r2 σ1 => if r2 = 0 then (gBd (M_X9_finding (-100001) σ1) (fun r5 σ4 => some (r5, σ4))) else (gBd (M_X9_isSheet a3 σ1) (fun r7 σ6 => if r7 = 0 then (gBd (M_X9_finding (-100001) σ6) (fun r43 σ42 => some (r43, σ42))) else (gIx 4 a1 (gBd (M_X8_isMissing a1.toNatClampNeg σ6) (fun r11 σ10 => if r11 = 0 then (gIx 4 a3 (gBd (M_X8_isMissing a3.toNatClampNeg σ10) (fun r17 σ16 => if r17 = 0 then (gIx 4 a1 (gIx 4 a3 (if (σ16 (93 + a1.toNatClampNeg) 0) = (σ16 (93 + a3.toNatClampNeg) 0) then (gIx 4 a1 (gBd (M_X8_hasRun a1.toNatClampNeg a2 a5 σ16) (fun r24 σ23 => if r24 = 0 then (gBd (M_X9_finding (-100001) σ23) (fun r27 σ26 => some (r27, σ26))) else (gIx 4 a3 (gBd (M_X8_hasRun a3.toNatClampNeg a4 a5 σ23) (fun r30 σ29 => if r30 = 0 then (gBd (M_X9_finding (-100001) σ29) (fun r37 σ36 => some (r37, σ36))) else (gIx 4 a1 (gIx 4 a3 (gGd (¬ (a2 : Int32) < 0 ∧ ¬ (a4 : Int32) < 0 ∧ ¬ (a5 : Int32) < 0 ∧ a2.toNatClampNeg + a5.toNatClampNeg ≤ 60 ∧ a4.toNatClampNeg + a5.toNatClampNeg ≤ 60) (gNm (gRow σ29 (97 + a3.toNatClampNeg) (va_cpy (σ29 (97 + a1.toNatClampNeg)) (σ29 (97 + a3.toNatClampNeg)) a2.toNatClampNeg a4.toNatClampNeg a5.toNatClampNeg)) (fun σ35 => some (a5, σ35)))))))))))) else (gBd (M_X9_finding (-100004) σ16) (fun r39 σ38 => some (r39, σ38)))))) else (gBd (M_X9_finding (-100002) σ16) (fun r41 σ40 => some (r41, σ40)))))) else (gBd (M_X9_finding (-100002) σ10) (fun r14 σ13 => some (r14, σ13)))))))))
set_option maxHeartbeats 4000000 in
set_option maxRecDepth 100000 in
theorem c_X9_copy (l : Launch) (G : gPar) (a1 a2 a3 a4 a5 : Int32) (σ : gSt) {r : Int32} {σ' : gSt} (h : M_X9_copy a1 a2 a3 a4 a5 σ = some (r, σ')) : gC l G yX9_copy cX9_copy 6 (some .int) 2 42 [.ref (G.2.2.1 0), .int a1, .int a2, .int a3, .int a4, .int a5] σ r σ' := by
  refine gC_of (by decide) (Nat.le_of_ble_eq_true rfl) ?_
  intro p e s m below meth c hx hb hr ht hown hlk hml hE hP ls hl
  have hS : va_S (gA G) s.heap s.heap [] := va_S.rf
  have hl : lv_has ls 6 [(0, .ref (G.2.2.1 0)), (1, .int a1), (2, .int a2), (3, .int a3), (4, .int a4), (5, .int a5)] := hl
  unfold M_X9_copy at h
  refine lv_iload_n hx hb dX9_copy_0 rfl (lv_at hl 1 rfl) ?_
  obtain ⟨r2, σ1, hcr2, h⟩ := g_bd h
  refine g_callS (As := [.int a1]) (n := 1) hx hb hml hown ht (c_X9_isSheet l G _ _ hcr2) m_690 m_691 m_31 m_692 (by decide +kernel) hE hP hS (fun _ h => h) (fun _ _ h => h) rfl hl.1 rfl (Nat.le_of_ble_eq_true rfl) dX9_copy_1 ⟨by decide, by decide⟩ ⟨Nat.zero_le _, Nat.zero_le _⟩ (fun H locs hP hS => ?_)
  refine lv_if_eq (tgt := 14) hx hb dX9_copy_4 (by decide) (fun c3 => ?_) (fun c3 => ?_)
  · have h := g_ift c3 h
    refine lv_aload_n hx hb dX9_copy_14 rfl (lv_at hl 0 rfl) ?_
    refine lv_ldc hx hb hown (ht _ m_357) dX9_copy_15 ?_
    obtain ⟨r5, σ4, hcr5, h⟩ := g_bd h
    refine g_callV (As := [.int (-100001)]) (n := 1) hx hb hml hown ht (c_X9_finding l G _ _ hcr5) m_358 m_360 m_0 m_31 m_361 (by decide +kernel) (by decide) gE_0 rfl hE hP hS (fun _ h => h) (fun _ _ h => h) rfl hl.1 rfl (Nat.le_of_ble_eq_true rfl) dX9_copy_17 ⟨by decide, by decide⟩ ⟨Nat.zero_le _, Nat.zero_le _⟩ (fun H locs hP hS => ?_)
    exact g_iret hx hb hr hlk hE hP hS h dX9_copy_20
  · have h := g_iff c3 h
    refine lv_iload_n hx hb dX9_copy_7 rfl (lv_at hl 3 rfl) ?_
    obtain ⟨r7, σ6, hcr7, h⟩ := g_bd h
    refine g_callS (As := [.int a3]) (n := 1) hx hb hml hown ht (c_X9_isSheet l G _ _ hcr7) m_690 m_691 m_31 m_692 (by decide +kernel) hE hP hS (fun _ h => h) (fun _ _ h => h) rfl hl.1 rfl (Nat.le_of_ble_eq_true rfl) dX9_copy_8 ⟨by decide, by decide⟩ ⟨Nat.zero_le _, Nat.zero_le _⟩ (fun H locs hP hS => ?_)
    refine lv_if_ne (tgt := 21) hx hb dX9_copy_11 (by decide) (fun c8 => ?_) (fun c8 => ?_)
    · have h := g_iff c8 h
      refine lv_aload_n hx hb dX9_copy_21 rfl (lv_at hl 0 rfl) ?_
      refine g_get hx hb ht hown hE hP (by decide) gE_0 uX9 rfl 3 (by decide) m_334 rfl rfl dX9_copy_22 ?_
      refine lv_iload_n hx hb dX9_copy_25 rfl (lv_at hl 1 rfl) ?_
      obtain ⟨i9, h⟩ := g_ix h
      have ji9 := g_lt i9
      refine g_aald hx hb hE hP 2 (by decide) rfl rfl rfl i9 dX9_copy_26 ?_
      obtain ⟨r11, σ10, hcr11, h⟩ := g_bd h
      refine g_callV (As := []) (n := 0) hx hb hml hown ht (c_X8_isMissing l G a1.toNatClampNeg ji9 _ hcr11) m_704 m_705 m_706 m_40 m_707 (by decide +kernel) (show 93 + a1.toNatClampNeg < 110 by omega) (gE_sheet ji9) rfl hE hP hS (fun _ h => h) (fun _ _ h => h) rfl hl.1 rfl (Nat.le_of_ble_eq_true rfl) dX9_copy_27 ⟨by decide, by decide⟩ ⟨Nat.zero_le _, Nat.zero_le _⟩ (fun H locs hP hS => ?_)
      refine lv_if_ne (tgt := 45) hx hb dX9_copy_30 (by decide) (fun c12 => ?_) (fun c12 => ?_)
      · have h := g_iff c12 h
        refine lv_aload_n hx hb dX9_copy_45 rfl (lv_at hl 0 rfl) ?_
        refine lv_ldc hx hb hown (ht _ m_649) dX9_copy_46 ?_
        obtain ⟨r14, σ13, hcr14, h⟩ := g_bd h
        refine g_callV (As := [.int (-100002)]) (n := 1) hx hb hml hown ht (c_X9_finding l G _ _ hcr14) m_358 m_360 m_0 m_31 m_361 (by decide +kernel) (by decide) gE_0 rfl hE hP hS (fun _ h => h) (fun _ _ h => h) rfl hl.1 rfl (Nat.le_of_ble_eq_true rfl) dX9_copy_48 ⟨by decide, by decide⟩ ⟨Nat.zero_le _, Nat.zero_le _⟩ (fun H locs hP hS => ?_)
        exact g_iret hx hb hr hlk hE hP hS h dX9_copy_51
      · have h := g_ift c12 h
        refine lv_aload_n hx hb dX9_copy_33 rfl (lv_at hl 0 rfl) ?_
        refine g_get hx hb ht hown hE hP (by decide) gE_0 uX9 rfl 3 (by decide) m_334 rfl rfl dX9_copy_34 ?_
        refine lv_iload_n hx hb dX9_copy_37 rfl (lv_at hl 3 rfl) ?_
        obtain ⟨i15, h⟩ := g_ix h
        have ji15 := g_lt i15
        refine g_aald hx hb hE hP 2 (by decide) rfl rfl rfl i15 dX9_copy_38 ?_
        obtain ⟨r17, σ16, hcr17, h⟩ := g_bd h
        refine g_callV (As := []) (n := 0) hx hb hml hown ht (c_X8_isMissing l G a3.toNatClampNeg ji15 _ hcr17) m_704 m_705 m_706 m_40 m_707 (by decide +kernel) (show 93 + a3.toNatClampNeg < 110 by omega) (gE_sheet ji15) rfl hE hP hS (fun _ h => h) (fun _ _ h => h) rfl hl.1 rfl (Nat.le_of_ble_eq_true rfl) dX9_copy_39 ⟨by decide, by decide⟩ ⟨Nat.zero_le _, Nat.zero_le _⟩ (fun H locs hP hS => ?_)
        refine lv_if_eq (tgt := 52) hx hb dX9_copy_42 (by decide) (fun c18 => ?_) (fun c18 => ?_)
        · have h := g_ift c18 h
          refine lv_aload_n hx hb dX9_copy_52 rfl (lv_at hl 0 rfl) ?_
          refine g_get hx hb ht hown hE hP (by decide) gE_0 uX9 rfl 3 (by decide) m_334 rfl rfl dX9_copy_53 ?_
          refine lv_iload_n hx hb dX9_copy_56 rfl (lv_at hl 1 rfl) ?_
          obtain ⟨i19, h⟩ := g_ix h
          have ji19 := g_lt i19
          refine g_aald hx hb hE hP 2 (by decide) rfl rfl rfl i19 dX9_copy_57 ?_
          refine g_get hx hb ht hown hE hP (show 93 + a1.toNatClampNeg < 110 by omega) (gE_sheet ji19) uX8 rfl 0 (by decide) m_317 rfl rfl dX9_copy_58 ?_
          refine lv_aload_n hx hb dX9_copy_61 rfl (lv_at hl 0 rfl) ?_
          refine g_get hx hb ht hown hE hP (by decide) gE_0 uX9 rfl 3 (by decide) m_334 rfl rfl dX9_copy_62 ?_
          refine lv_iload_n hx hb dX9_copy_65 rfl (lv_at hl 3 rfl) ?_
          obtain ⟨i20, h⟩ := g_ix h
          have ji20 := g_lt i20
          refine g_aald hx hb hE hP 2 (by decide) rfl rfl rfl i20 dX9_copy_66 ?_
          refine g_get hx hb ht hown hE hP (show 93 + a3.toNatClampNeg < 110 by omega) (gE_sheet ji20) uX8 rfl 0 (by decide) m_317 rfl rfl dX9_copy_67 ?_
          refine lv_icmp_eq (tgt := 80) hx hb dX9_copy_70 (by decide) (fun c21 => ?_) (fun c21 => ?_)
          · have h := g_ift c21 h
            refine lv_aload_n hx hb dX9_copy_80 rfl (lv_at hl 0 rfl) ?_
            refine g_get hx hb ht hown hE hP (by decide) gE_0 uX9 rfl 3 (by decide) m_334 rfl rfl dX9_copy_81 ?_
            refine lv_iload_n hx hb dX9_copy_84 rfl (lv_at hl 1 rfl) ?_
            obtain ⟨i22, h⟩ := g_ix h
            have ji22 := g_lt i22
            refine g_aald hx hb hE hP 2 (by decide) rfl rfl rfl i22 dX9_copy_85 ?_
            refine lv_iload_n hx hb dX9_copy_86 rfl (lv_at hl 2 rfl) ?_
            refine lv_iload hx hb dX9_copy_87 (lv_at hl 5 rfl) ?_
            obtain ⟨r24, σ23, hcr24, h⟩ := g_bd h
            refine g_callV (As := [.int a2, .int a5]) (n := 2) hx hb hml hown ht (c_X8_hasRun l G a1.toNatClampNeg ji22 _ _ _ hcr24) m_716 m_717 m_718 m_40 m_719 (by decide +kernel) (show 93 + a1.toNatClampNeg < 110 by omega) (gE_sheet ji22) rfl hE hP hS (fun _ h => h) (fun _ _ h => h) rfl hl.1 rfl (Nat.le_of_ble_eq_true rfl) dX9_copy_89 ⟨by decide, by decide⟩ ⟨Nat.zero_le _, Nat.zero_le _⟩ (fun H locs hP hS => ?_)
            refine lv_if_eq (tgt := 111) hx hb dX9_copy_92 (by decide) (fun c25 => ?_) (fun c25 => ?_)
            · have h := g_ift c25 h
              refine lv_aload_n hx hb dX9_copy_111 rfl (lv_at hl 0 rfl) ?_
              refine lv_ldc hx hb hown (ht _ m_357) dX9_copy_112 ?_
              obtain ⟨r27, σ26, hcr27, h⟩ := g_bd h
              refine g_callV (As := [.int (-100001)]) (n := 1) hx hb hml hown ht (c_X9_finding l G _ _ hcr27) m_358 m_360 m_0 m_31 m_361 (by decide +kernel) (by decide) gE_0 rfl hE hP hS (fun _ h => h) (fun _ _ h => h) rfl hl.1 rfl (Nat.le_of_ble_eq_true rfl) dX9_copy_114 ⟨by decide, by decide⟩ ⟨Nat.zero_le _, Nat.zero_le _⟩ (fun H locs hP hS => ?_)
              exact g_iret hx hb hr hlk hE hP hS h dX9_copy_117
            · have h := g_iff c25 h
              refine lv_aload_n hx hb dX9_copy_95 rfl (lv_at hl 0 rfl) ?_
              refine g_get hx hb ht hown hE hP (by decide) gE_0 uX9 rfl 3 (by decide) m_334 rfl rfl dX9_copy_96 ?_
              refine lv_iload_n hx hb dX9_copy_99 rfl (lv_at hl 3 rfl) ?_
              obtain ⟨i28, h⟩ := g_ix h
              have ji28 := g_lt i28
              refine g_aald hx hb hE hP 2 (by decide) rfl rfl rfl i28 dX9_copy_100 ?_
              refine lv_iload hx hb dX9_copy_101 (lv_at hl 4 rfl) ?_
              refine lv_iload hx hb dX9_copy_103 (lv_at hl 5 rfl) ?_
              obtain ⟨r30, σ29, hcr30, h⟩ := g_bd h
              refine g_callV (As := [.int a4, .int a5]) (n := 2) hx hb hml hown ht (c_X8_hasRun l G a3.toNatClampNeg ji28 _ _ _ hcr30) m_716 m_717 m_718 m_40 m_719 (by decide +kernel) (show 93 + a3.toNatClampNeg < 110 by omega) (gE_sheet ji28) rfl hE hP hS (fun _ h => h) (fun _ _ h => h) rfl hl.1 rfl (Nat.le_of_ble_eq_true rfl) dX9_copy_105 ⟨by decide, by decide⟩ ⟨Nat.zero_le _, Nat.zero_le _⟩ (fun H locs hP hS => ?_)
              refine lv_if_ne (tgt := 118) hx hb dX9_copy_108 (by decide) (fun c31 => ?_) (fun c31 => ?_)
              · have h := g_iff c31 h
                refine lv_aload_n hx hb dX9_copy_118 rfl (lv_at hl 0 rfl) ?_
                refine g_get hx hb ht hown hE hP (by decide) gE_0 uX9 rfl 3 (by decide) m_334 rfl rfl dX9_copy_119 ?_
                refine lv_iload_n hx hb dX9_copy_122 rfl (lv_at hl 1 rfl) ?_
                obtain ⟨i32, h⟩ := g_ix h
                have ji32 := g_lt i32
                refine g_aald hx hb hE hP 2 (by decide) rfl rfl rfl i32 dX9_copy_123 ?_
                refine g_get hx hb ht hown hE hP (show 93 + a1.toNatClampNeg < 110 by omega) (gE_sheet ji32) uX8 rfl 2 (by decide) m_323 rfl rfl dX9_copy_124 ?_
                refine lv_iload_n hx hb dX9_copy_127 rfl (lv_at hl 2 rfl) ?_
                refine lv_aload_n hx hb dX9_copy_128 rfl (lv_at hl 0 rfl) ?_
                refine g_get hx hb ht hown hE hP (by decide) gE_0 uX9 rfl 3 (by decide) m_334 rfl rfl dX9_copy_129 ?_
                refine lv_iload_n hx hb dX9_copy_132 rfl (lv_at hl 3 rfl) ?_
                obtain ⟨i33, h⟩ := g_ix h
                have ji33 := g_lt i33
                refine g_aald hx hb hE hP 2 (by decide) rfl rfl rfl i33 dX9_copy_133 ?_
                refine g_get hx hb ht hown hE hP (show 93 + a3.toNatClampNeg < 110 by omega) (gE_sheet ji33) uX8 rfl 2 (by decide) m_323 rfl rfl dX9_copy_134 ?_
                refine lv_iload hx hb dX9_copy_137 (lv_at hl 4 rfl) ?_
                refine lv_iload hx hb dX9_copy_139 (lv_at hl 5 rfl) ?_
                obtain ⟨q34, h⟩ := g_gd h
                refine g_copy hx hb (hml.trans hl.1.symm) hown ht m_720 m_722 m_721 m_45 hE hP hS (show 97 + a1.toNatClampNeg < 110 by omega) (gL_num ji32) (by decide) (show 97 + a3.toNatClampNeg < 110 by omega) (gL_num ji33) (by decide) q34 (Nat.le_of_ble_eq_true rfl) (Nat.le_of_ble_eq_true rfl) dX9_copy_141 (fun H locs σ35 eσ35 hP hS => ?_)
                have h := g_nm eσ35 h
                refine lv_iload hx hb dX9_copy_144 (lv_at hl 5 rfl) ?_
                exact g_iret hx hb hr hlk hE hP hS h dX9_copy_146
              · have h := g_ift c31 h
                refine lv_aload_n hx hb dX9_copy_111 rfl (lv_at hl 0 rfl) ?_
                refine lv_ldc hx hb hown (ht _ m_357) dX9_copy_112 ?_
                obtain ⟨r37, σ36, hcr37, h⟩ := g_bd h
                refine g_callV (As := [.int (-100001)]) (n := 1) hx hb hml hown ht (c_X9_finding l G _ _ hcr37) m_358 m_360 m_0 m_31 m_361 (by decide +kernel) (by decide) gE_0 rfl hE hP hS (fun _ h => h) (fun _ _ h => h) rfl hl.1 rfl (Nat.le_of_ble_eq_true rfl) dX9_copy_114 ⟨by decide, by decide⟩ ⟨Nat.zero_le _, Nat.zero_le _⟩ (fun H locs hP hS => ?_)
                exact g_iret hx hb hr hlk hE hP hS h dX9_copy_117
          · have h := g_iff c21 h
            refine lv_aload_n hx hb dX9_copy_73 rfl (lv_at hl 0 rfl) ?_
            refine lv_ldc hx hb hown (ht _ m_405) dX9_copy_74 ?_
            obtain ⟨r39, σ38, hcr39, h⟩ := g_bd h
            refine g_callV (As := [.int (-100004)]) (n := 1) hx hb hml hown ht (c_X9_finding l G _ _ hcr39) m_358 m_360 m_0 m_31 m_361 (by decide +kernel) (by decide) gE_0 rfl hE hP hS (fun _ h => h) (fun _ _ h => h) rfl hl.1 rfl (Nat.le_of_ble_eq_true rfl) dX9_copy_76 ⟨by decide, by decide⟩ ⟨Nat.zero_le _, Nat.zero_le _⟩ (fun H locs hP hS => ?_)
            exact g_iret hx hb hr hlk hE hP hS h dX9_copy_79
        · have h := g_iff c18 h
          refine lv_aload_n hx hb dX9_copy_45 rfl (lv_at hl 0 rfl) ?_
          refine lv_ldc hx hb hown (ht _ m_649) dX9_copy_46 ?_
          obtain ⟨r41, σ40, hcr41, h⟩ := g_bd h
          refine g_callV (As := [.int (-100002)]) (n := 1) hx hb hml hown ht (c_X9_finding l G _ _ hcr41) m_358 m_360 m_0 m_31 m_361 (by decide +kernel) (by decide) gE_0 rfl hE hP hS (fun _ h => h) (fun _ _ h => h) rfl hl.1 rfl (Nat.le_of_ble_eq_true rfl) dX9_copy_48 ⟨by decide, by decide⟩ ⟨Nat.zero_le _, Nat.zero_le _⟩ (fun H locs hP hS => ?_)
          exact g_iret hx hb hr hlk hE hP hS h dX9_copy_51
    · have h := g_ift c8 h
      refine lv_aload_n hx hb dX9_copy_14 rfl (lv_at hl 0 rfl) ?_
      refine lv_ldc hx hb hown (ht _ m_357) dX9_copy_15 ?_
      obtain ⟨r43, σ42, hcr43, h⟩ := g_bd h
      refine g_callV (As := [.int (-100001)]) (n := 1) hx hb hml hown ht (c_X9_finding l G _ _ hcr43) m_358 m_360 m_0 m_31 m_361 (by decide +kernel) (by decide) gE_0 rfl hE hP hS (fun _ h => h) (fun _ _ h => h) rfl hl.1 rfl (Nat.le_of_ble_eq_true rfl) dX9_copy_17 ⟨by decide, by decide⟩ ⟨Nat.zero_le _, Nat.zero_le _⟩ (fun H locs hP hS => ?_)
      exact g_iret hx hb hr hlk hE hP hS h dX9_copy_20

def M_X9_read (a1 : Int32) (σ : gSt) : gO :=
  gBd (M_X9_isSheet a1 σ) (fun r2 σ1 => if r2 = 0 then (gBd (M_X9_finding (-100001) σ1) (fun r14 σ13 => some (r14, σ13))) else (gIx 4 a1 (gBd (M_X8_isMissing a1.toNatClampNeg σ1) (fun r6 σ5 => if r6 = 0 then (gIx 4 a1 (gBd (M_X6_readPrices a1.toNatClampNeg σ5) (fun r10 σ9 => some (r10, σ9)))) else (gBd (M_X9_finding (-100002) σ5) (fun r12 σ11 => some (r12, σ11)))))))
set_option maxHeartbeats 4000000 in
set_option maxRecDepth 100000 in
theorem c_X9_read (l : Launch) (G : gPar) (a1 : Int32) (σ : gSt) {r : Int32} {σ' : gSt} (h : M_X9_read a1 σ = some (r, σ')) : gC l G yX9_read cX9_read 2 (some .int) 2 47 [.ref (G.2.2.1 0), .int a1] σ r σ' := by
  refine gC_of (by decide) (Nat.le_of_ble_eq_true rfl) ?_
  intro p e s m below meth c hx hb hr ht hown hlk hml hE hP ls hl
  have hS : va_S (gA G) s.heap s.heap [] := va_S.rf
  have hl : lv_has ls 2 [(0, .ref (G.2.2.1 0)), (1, .int a1)] := hl
  unfold M_X9_read at h
  refine lv_iload_n hx hb dX9_read_0 rfl (lv_at hl 1 rfl) ?_
  obtain ⟨r2, σ1, hcr2, h⟩ := g_bd h
  refine g_callS (As := [.int a1]) (n := 1) hx hb hml hown ht (c_X9_isSheet l G _ _ hcr2) m_690 m_691 m_31 m_692 (by decide +kernel) hE hP hS (fun _ h => h) (fun _ _ h => h) rfl hl.1 rfl (Nat.le_of_ble_eq_true rfl) dX9_read_1 ⟨by decide, by decide⟩ ⟨Nat.zero_le _, Nat.zero_le _⟩ (fun H locs hP hS => ?_)
  refine lv_if_ne (tgt := 14) hx hb dX9_read_4 (by decide) (fun c3 => ?_) (fun c3 => ?_)
  · have h := g_iff c3 h
    refine lv_aload_n hx hb dX9_read_14 rfl (lv_at hl 0 rfl) ?_
    refine g_get hx hb ht hown hE hP (by decide) gE_0 uX9 rfl 3 (by decide) m_334 rfl rfl dX9_read_15 ?_
    refine lv_iload_n hx hb dX9_read_18 rfl (lv_at hl 1 rfl) ?_
    obtain ⟨i4, h⟩ := g_ix h
    have ji4 := g_lt i4
    refine g_aald hx hb hE hP 2 (by decide) rfl rfl rfl i4 dX9_read_19 ?_
    obtain ⟨r6, σ5, hcr6, h⟩ := g_bd h
    refine g_callV (As := []) (n := 0) hx hb hml hown ht (c_X8_isMissing l G a1.toNatClampNeg ji4 _ hcr6) m_704 m_705 m_706 m_40 m_707 (by decide +kernel) (show 93 + a1.toNatClampNeg < 110 by omega) (gE_sheet ji4) rfl hE hP hS (fun _ h => h) (fun _ _ h => h) rfl hl.1 rfl (Nat.le_of_ble_eq_true rfl) dX9_read_20 ⟨by decide, by decide⟩ ⟨Nat.zero_le _, Nat.zero_le _⟩ (fun H locs hP hS => ?_)
    refine lv_if_eq (tgt := 33) hx hb dX9_read_23 (by decide) (fun c7 => ?_) (fun c7 => ?_)
    · have h := g_ift c7 h
      refine lv_aload_n hx hb dX9_read_33 rfl (lv_at hl 0 rfl) ?_
      refine g_get hx hb ht hown hE hP (by decide) gE_0 uX9 rfl 0 (by decide) m_331 rfl rfl dX9_read_34 ?_
      refine g_get hx hb ht hown hE hP (by decide) gE_1 uX0 rfl 5 (by decide) m_260 rfl rfl dX9_read_37 ?_
      refine lv_aload_n hx hb dX9_read_40 rfl (lv_at hl 0 rfl) ?_
      refine g_get hx hb ht hown hE hP (by decide) gE_0 uX9 rfl 3 (by decide) m_334 rfl rfl dX9_read_41 ?_
      refine lv_iload_n hx hb dX9_read_44 rfl (lv_at hl 1 rfl) ?_
      obtain ⟨i8, h⟩ := g_ix h
      have ji8 := g_lt i8
      refine g_aald hx hb hE hP 2 (by decide) rfl rfl rfl i8 dX9_read_45 ?_
      obtain ⟨r10, σ9, hcr10, h⟩ := g_bd h
      refine g_callV (As := [.ref (G.2.2.1 (93 + a1.toNatClampNeg))]) (n := 1) hx hb hml hown ht (c_X6_readPrices l G a1.toNatClampNeg ji8 _ hcr10) m_727 m_728 m_729 m_38 m_730 (by decide +kernel) (by decide) gE_38 rfl hE hP hS (fun _ h => h) (fun _ _ h => h) rfl hl.1 rfl (Nat.le_of_ble_eq_true rfl) dX9_read_46 ⟨by decide, by decide⟩ ⟨Nat.zero_le _, Nat.zero_le _⟩ (fun H locs hP hS => ?_)
      exact g_iret hx hb hr hlk hE hP hS h dX9_read_49
    · have h := g_iff c7 h
      refine lv_aload_n hx hb dX9_read_26 rfl (lv_at hl 0 rfl) ?_
      refine lv_ldc hx hb hown (ht _ m_649) dX9_read_27 ?_
      obtain ⟨r12, σ11, hcr12, h⟩ := g_bd h
      refine g_callV (As := [.int (-100002)]) (n := 1) hx hb hml hown ht (c_X9_finding l G _ _ hcr12) m_358 m_360 m_0 m_31 m_361 (by decide +kernel) (by decide) gE_0 rfl hE hP hS (fun _ h => h) (fun _ _ h => h) rfl hl.1 rfl (Nat.le_of_ble_eq_true rfl) dX9_read_29 ⟨by decide, by decide⟩ ⟨Nat.zero_le _, Nat.zero_le _⟩ (fun H locs hP hS => ?_)
      exact g_iret hx hb hr hlk hE hP hS h dX9_read_32
  · have h := g_ift c3 h
    refine lv_aload_n hx hb dX9_read_7 rfl (lv_at hl 0 rfl) ?_
    refine lv_ldc hx hb hown (ht _ m_357) dX9_read_8 ?_
    obtain ⟨r14, σ13, hcr14, h⟩ := g_bd h
    refine g_callV (As := [.int (-100001)]) (n := 1) hx hb hml hown ht (c_X9_finding l G _ _ hcr14) m_358 m_360 m_0 m_31 m_361 (by decide +kernel) (by decide) gE_0 rfl hE hP hS (fun _ h => h) (fun _ _ h => h) rfl hl.1 rfl (Nat.le_of_ble_eq_true rfl) dX9_read_10 ⟨by decide, by decide⟩ ⟨Nat.zero_le _, Nat.zero_le _⟩ (fun H locs hP hS => ?_)
    exact g_iret hx hb hr hlk hE hP hS h dX9_read_13

def M_X9_keep (σ : gSt) : gO :=
  gBd (M_X0_become_k σ) (fun r2 σ1 => gNm (gUp σ1 0 4 1) (fun σ3 => some ((σ3 11 0), σ3)))
set_option maxHeartbeats 4000000 in
set_option maxRecDepth 100000 in
theorem c_X9_keep (l : Launch) (G : gPar) (σ : gSt) {r : Int32} {σ' : gSt} (h : M_X9_keep σ = some (r, σ')) : gC l G yX9_keep cX9_keep 1 (some .int) 4 82 [.ref (G.2.2.1 0)] σ r σ' := by
  refine gC_of (by decide) (Nat.le_of_ble_eq_true rfl) ?_
  intro p e s m below meth c hx hb hr ht hown hlk hml hE hP ls hl
  have hS : va_S (gA G) s.heap s.heap [] := va_S.rf
  have hl : lv_has ls 1 [(0, .ref (G.2.2.1 0))] := hl
  unfold M_X9_keep at h
  refine lv_aload_n hx hb dX9_keep_0 rfl (lv_at hl 0 rfl) ?_
  refine g_get hx hb ht hown hE hP (by decide) gE_0 uX9 rfl 1 (by decide) m_332 rfl rfl dX9_keep_1 ?_
  refine lv_aload_n hx hb dX9_keep_4 rfl (lv_at hl 0 rfl) ?_
  refine g_get hx hb ht hown hE hP (by decide) gE_0 uX9 rfl 0 (by decide) m_331 rfl rfl dX9_keep_5 ?_
  obtain ⟨r2, σ1, hcr2, h⟩ := g_bd h
  refine g_callVv (As := [.ref (G.2.2.1 1)]) (n := 1) hx hb hml hown ht (c_X0_become_k l G _ hcr2) m_739 m_740 m_741 m_32 m_742 (by decide +kernel) (by decide) gE_43 rfl hE hP hS (fun _ h => h) (fun _ _ h => h) rfl hl.1 rfl (Nat.le_of_ble_eq_true rfl) dX9_keep_8 ⟨by decide, by decide⟩ ⟨Nat.zero_le _, Nat.zero_le _⟩ (fun H locs hP hS => ?_)
  refine lv_aload_n hx hb dX9_keep_11 rfl (lv_at hl 0 rfl) ?_
  refine lv_iconst (v := 1) hx hb dX9_keep_12 (by decide) ?_
  refine g_put hx hb ht hown hE hP hS (by decide) gE_0 uX9 tyX9_ok nmX9 rfl 4 (by decide) m_335 rfl rfl rfl rfl rfl (Nat.le_of_ble_eq_true rfl) rfl dX9_keep_13 (fun H locs σ3 eσ3 hP hS => ?_)
  have h := g_nm eσ3 h
  refine lv_aload_n hx hb dX9_keep_16 rfl (lv_at hl 0 rfl) ?_
  refine g_get hx hb ht hown hE hP (by decide) gE_0 uX9 rfl 0 (by decide) m_331 rfl rfl dX9_keep_17 ?_
  refine g_get hx hb ht hown hE hP (by decide) gE_1 uX0 rfl 1 (by decide) m_249 rfl rfl dX9_keep_20 ?_
  refine g_get hx hb ht hown hE hP (by decide) gE_11 uX5 rfl 0 (by decide) m_89 rfl rfl dX9_keep_23 ?_
  exact g_iret hx hb hr hlk hE hP hS h dX9_keep_26

def M_X9_back (σ : gSt) : gO :=
  if (σ 0 4) = 0 then (gBd (M_X9_finding (-100006) σ) (fun r5 σ4 => some (r5, σ4))) else (gBd (M_X0_become_b σ) (fun r3 σ2 => some ((σ2 11 0), σ2)))
set_option maxHeartbeats 4000000 in
set_option maxRecDepth 100000 in
theorem c_X9_back (l : Launch) (G : gPar) (σ : gSt) {r : Int32} {σ' : gSt} (h : M_X9_back σ = some (r, σ')) : gC l G yX9_back cX9_back 1 (some .int) 4 82 [.ref (G.2.2.1 0)] σ r σ' := by
  refine gC_of (by decide) (Nat.le_of_ble_eq_true rfl) ?_
  intro p e s m below meth c hx hb hr ht hown hlk hml hE hP ls hl
  have hS : va_S (gA G) s.heap s.heap [] := va_S.rf
  have hl : lv_has ls 1 [(0, .ref (G.2.2.1 0))] := hl
  unfold M_X9_back at h
  refine lv_aload_n hx hb dX9_back_0 rfl (lv_at hl 0 rfl) ?_
  refine g_get hx hb ht hown hE hP (by decide) gE_0 uX9 rfl 4 (by decide) m_335 rfl rfl dX9_back_1 ?_
  refine lv_if_ne (tgt := 14) hx hb dX9_back_4 (by decide) (fun c1 => ?_) (fun c1 => ?_)
  · have h := g_iff c1 h
    refine lv_aload_n hx hb dX9_back_14 rfl (lv_at hl 0 rfl) ?_
    refine g_get hx hb ht hown hE hP (by decide) gE_0 uX9 rfl 0 (by decide) m_331 rfl rfl dX9_back_15 ?_
    refine lv_aload_n hx hb dX9_back_18 rfl (lv_at hl 0 rfl) ?_
    refine g_get hx hb ht hown hE hP (by decide) gE_0 uX9 rfl 1 (by decide) m_332 rfl rfl dX9_back_19 ?_
    obtain ⟨r3, σ2, hcr3, h⟩ := g_bd h
    refine g_callVv (As := [.ref (G.2.2.1 43)]) (n := 1) hx hb hml hown ht (c_X0_become_b l G _ hcr3) m_739 m_740 m_741 m_32 m_742 (by decide +kernel) (by decide) gE_1 rfl hE hP hS (fun _ h => h) (fun _ _ h => h) rfl hl.1 rfl (Nat.le_of_ble_eq_true rfl) dX9_back_22 ⟨by decide, by decide⟩ ⟨Nat.zero_le _, Nat.zero_le _⟩ (fun H locs hP hS => ?_)
    refine lv_aload_n hx hb dX9_back_25 rfl (lv_at hl 0 rfl) ?_
    refine g_get hx hb ht hown hE hP (by decide) gE_0 uX9 rfl 0 (by decide) m_331 rfl rfl dX9_back_26 ?_
    refine g_get hx hb ht hown hE hP (by decide) gE_1 uX0 rfl 1 (by decide) m_249 rfl rfl dX9_back_29 ?_
    refine g_get hx hb ht hown hE hP (by decide) gE_11 uX5 rfl 0 (by decide) m_89 rfl rfl dX9_back_32 ?_
    exact g_iret hx hb hr hlk hE hP hS h dX9_back_35
  · have h := g_ift c1 h
    refine lv_aload_n hx hb dX9_back_7 rfl (lv_at hl 0 rfl) ?_
    refine lv_ldc hx hb hown (ht _ m_452) dX9_back_8 ?_
    obtain ⟨r5, σ4, hcr5, h⟩ := g_bd h
    refine g_callV (As := [.int (-100006)]) (n := 1) hx hb hml hown ht (c_X9_finding l G _ _ hcr5) m_358 m_360 m_0 m_31 m_361 (by decide +kernel) (by decide) gE_0 rfl hE hP hS (fun _ h => h) (fun _ _ h => h) rfl hl.1 rfl (Nat.le_of_ble_eq_true rfl) dX9_back_10 ⟨by decide, by decide⟩ ⟨Nat.zero_le _, Nat.zero_le _⟩ (fun H locs hP hS => ?_)
    exact g_iret hx hb hr hlk hE hP hS h dX9_back_13

def M_X9_told (a1 : Int32) (σ : gSt) : gO :=
  if a1 = 0 then (some ((σ 2 0), σ)) else (if a1 = 1 then (some ((σ 11 0), σ)) else (if a1 = 2 then (some ((σ 17 0), σ)) else (if a1 = 3 then (some ((σ 26 0), σ)) else (if a1 = 4 then (some ((σ 31 0), σ)) else (if a1 = 5 then (some ((σ 0 5), σ)) else (if a1 = 6 then (gBd (M_X1_countDoubted σ) (fun r9 σ8 => some (r9, σ8))) else ((gBd (M_X9_finding (-100001) σ) (fun r11 σ10 => some (r11, σ10))))))))))
set_option maxHeartbeats 4000000 in
set_option maxRecDepth 100000 in
theorem c_X9_told (l : Launch) (G : gPar) (a1 : Int32) (σ : gSt) {r : Int32} {σ' : gSt} (h : M_X9_told a1 σ = some (r, σ')) : gC l G yX9_told cX9_told 2 (some .int) 1 22 [.ref (G.2.2.1 0), .int a1] σ r σ' := by
  refine gC_of (by decide) (Nat.le_of_ble_eq_true rfl) ?_
  intro p e s m below meth c hx hb hr ht hown hlk hml hE hP ls hl
  have hS : va_S (gA G) s.heap s.heap [] := va_S.rf
  have hl : lv_has ls 2 [(0, .ref (G.2.2.1 0)), (1, .int a1)] := hl
  unfold M_X9_told at h
  refine lv_iload_n hx hb dX9_told_0 rfl (lv_at hl 1 rfl) ?_
  by_cases t1 : a1 = 0
  · have h := g_ift t1 h
    refine lv_tableIn (tgt := 44) hx hb dX9_told_1 (by rw [t1]; decide) (by rw [t1]; decide) (by rw [t1]; rfl) (by decide) ?_
    refine lv_aload_n hx hb dX9_told_44 rfl (lv_at hl 0 rfl) ?_
    refine g_get hx hb ht hown hE hP (by decide) gE_0 uX9 rfl 0 (by decide) m_331 rfl rfl dX9_told_45 ?_
    refine g_get hx hb ht hown hE hP (by decide) gE_1 uX0 rfl 0 (by decide) m_247 rfl rfl dX9_told_48 ?_
    refine g_get hx hb ht hown hE hP (by decide) gE_2 uX4 rfl 0 (by decide) m_69 rfl rfl dX9_told_51 ?_
    exact g_iret hx hb hr hlk hE hP hS h dX9_told_54
  · have h := g_iff t1 h
    by_cases t2 : a1 = 1
    · have h := g_ift t2 h
      refine lv_tableIn (tgt := 55) hx hb dX9_told_1 (by rw [t2]; decide) (by rw [t2]; decide) (by rw [t2]; rfl) (by decide) ?_
      refine lv_aload_n hx hb dX9_told_55 rfl (lv_at hl 0 rfl) ?_
      refine g_get hx hb ht hown hE hP (by decide) gE_0 uX9 rfl 0 (by decide) m_331 rfl rfl dX9_told_56 ?_
      refine g_get hx hb ht hown hE hP (by decide) gE_1 uX0 rfl 1 (by decide) m_249 rfl rfl dX9_told_59 ?_
      refine g_get hx hb ht hown hE hP (by decide) gE_11 uX5 rfl 0 (by decide) m_89 rfl rfl dX9_told_62 ?_
      exact g_iret hx hb hr hlk hE hP hS h dX9_told_65
    · have h := g_iff t2 h
      by_cases t3 : a1 = 2
      · have h := g_ift t3 h
        refine lv_tableIn (tgt := 66) hx hb dX9_told_1 (by rw [t3]; decide) (by rw [t3]; decide) (by rw [t3]; rfl) (by decide) ?_
        refine lv_aload_n hx hb dX9_told_66 rfl (lv_at hl 0 rfl) ?_
        refine g_get hx hb ht hown hE hP (by decide) gE_0 uX9 rfl 0 (by decide) m_331 rfl rfl dX9_told_67 ?_
        refine g_get hx hb ht hown hE hP (by decide) gE_1 uX0 rfl 2 (by decide) m_253 rfl rfl dX9_told_70 ?_
        refine g_get hx hb ht hown hE hP (by decide) gE_17 uX1 rfl 0 (by decide) m_123 rfl rfl dX9_told_73 ?_
        exact g_iret hx hb hr hlk hE hP hS h dX9_told_76
      · have h := g_iff t3 h
        by_cases t4 : a1 = 3
        · have h := g_ift t4 h
          refine lv_tableIn (tgt := 77) hx hb dX9_told_1 (by rw [t4]; decide) (by rw [t4]; decide) (by rw [t4]; rfl) (by decide) ?_
          refine lv_aload_n hx hb dX9_told_77 rfl (lv_at hl 0 rfl) ?_
          refine g_get hx hb ht hown hE hP (by decide) gE_0 uX9 rfl 0 (by decide) m_331 rfl rfl dX9_told_78 ?_
          refine g_get hx hb ht hown hE hP (by decide) gE_1 uX0 rfl 3 (by decide) m_256 rfl rfl dX9_told_81 ?_
          refine g_get hx hb ht hown hE hP (by decide) gE_26 uX2 rfl 0 (by decide) m_166 rfl rfl dX9_told_84 ?_
          exact g_iret hx hb hr hlk hE hP hS h dX9_told_87
        · have h := g_iff t4 h
          by_cases t5 : a1 = 4
          · have h := g_ift t5 h
            refine lv_tableIn (tgt := 88) hx hb dX9_told_1 (by rw [t5]; decide) (by rw [t5]; decide) (by rw [t5]; rfl) (by decide) ?_
            refine lv_aload_n hx hb dX9_told_88 rfl (lv_at hl 0 rfl) ?_
            refine g_get hx hb ht hown hE hP (by decide) gE_0 uX9 rfl 0 (by decide) m_331 rfl rfl dX9_told_89 ?_
            refine g_get hx hb ht hown hE hP (by decide) gE_1 uX0 rfl 4 (by decide) m_258 rfl rfl dX9_told_92 ?_
            refine g_get hx hb ht hown hE hP (by decide) gE_31 uX3 rfl 0 (by decide) m_191 rfl rfl dX9_told_95 ?_
            exact g_iret hx hb hr hlk hE hP hS h dX9_told_98
          · have h := g_iff t5 h
            by_cases t6 : a1 = 5
            · have h := g_ift t6 h
              refine lv_tableIn (tgt := 99) hx hb dX9_told_1 (by rw [t6]; decide) (by rw [t6]; decide) (by rw [t6]; rfl) (by decide) ?_
              refine lv_aload_n hx hb dX9_told_99 rfl (lv_at hl 0 rfl) ?_
              refine g_get hx hb ht hown hE hP (by decide) gE_0 uX9 rfl 5 (by decide) m_336 rfl rfl dX9_told_100 ?_
              exact g_iret hx hb hr hlk hE hP hS h dX9_told_103
            · have h := g_iff t6 h
              by_cases t7 : a1 = 6
              · have h := g_ift t7 h
                refine lv_tableIn (tgt := 104) hx hb dX9_told_1 (by rw [t7]; decide) (by rw [t7]; decide) (by rw [t7]; rfl) (by decide) ?_
                refine lv_aload_n hx hb dX9_told_104 rfl (lv_at hl 0 rfl) ?_
                refine g_get hx hb ht hown hE hP (by decide) gE_0 uX9 rfl 0 (by decide) m_331 rfl rfl dX9_told_105 ?_
                refine g_get hx hb ht hown hE hP (by decide) gE_1 uX0 rfl 2 (by decide) m_253 rfl rfl dX9_told_108 ?_
                obtain ⟨r9, σ8, hcr9, h⟩ := g_bd h
                refine g_callV (As := []) (n := 0) hx hb hml hown ht (c_X1_countDoubted l G _ hcr9) m_444 m_445 m_446 m_35 m_447 (by decide +kernel) (by decide) gE_17 rfl hE hP hS (fun _ h => h) (fun _ _ h => h) rfl hl.1 rfl (Nat.le_of_ble_eq_true rfl) dX9_told_111 ⟨by decide, by decide⟩ ⟨Nat.zero_le _, Nat.zero_le _⟩ (fun H locs hP hS => ?_)
                exact g_iret hx hb hr hlk hE hP hS h dX9_told_114
              · have h := g_iff t7 h
                refine lv_tableOut (tgt := 115) hx hb dX9_told_1 (by have := g_ne t1; have := g_ne t2; have := g_ne t3; have := g_ne t4; have := g_ne t5; have := g_ne t6; have := g_ne t7; simp only [show ((0 : Int32).toInt) = 0 from rfl, show ((1 : Int32).toInt) = 1 from rfl, show ((2 : Int32).toInt) = 2 from rfl, show ((3 : Int32).toInt) = 3 from rfl, show ((4 : Int32).toInt) = 4 from rfl, show ((5 : Int32).toInt) = 5 from rfl, show ((6 : Int32).toInt) = 6 from rfl] at *; omega) (by decide) ?_
                refine lv_aload_n hx hb dX9_told_115 rfl (lv_at hl 0 rfl) ?_
                refine lv_ldc hx hb hown (ht _ m_357) dX9_told_116 ?_
                obtain ⟨r11, σ10, hcr11, h⟩ := g_bd h
                refine g_callV (As := [.int (-100001)]) (n := 1) hx hb hml hown ht (c_X9_finding l G _ _ hcr11) m_358 m_360 m_0 m_31 m_361 (by decide +kernel) (by decide) gE_0 rfl hE hP hS (fun _ h => h) (fun _ _ h => h) rfl hl.1 rfl (Nat.le_of_ble_eq_true rfl) dX9_told_118 ⟨by decide, by decide⟩ ⟨Nat.zero_le _, Nat.zero_le _⟩ (fun H locs hP hS => ?_)
                exact g_iret hx hb hr hlk hE hP hS h dX9_told_121
