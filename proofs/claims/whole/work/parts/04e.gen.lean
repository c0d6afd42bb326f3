def M_X9_canReckon (a1 a2 a3 : Int32) (σ : gSt) : gO :=
  gBd (M_X5_has a1 σ) (fun r2 σ1 => if r2 = 0 then (some (0, σ1)) else (gBd (M_X9_isDay a2 σ1) (fun r5 σ4 => if r5 = 0 then (some (0, σ4)) else (gBd (M_X9_isDay a3 σ4) (fun r8 σ7 => if r8 = 0 then (some (0, σ7)) else (some (1, σ7)))))))
set_option maxHeartbeats 4000000 in
set_option maxRecDepth 100000 in
theorem c_X9_canReckon (l : Launch) (G : gPar) (a1 a2 a3 : Int32) (σ : gSt) {r : Int32} {σ' : gSt} (h : M_X9_canReckon a1 a2 a3 σ = some (r, σ')) : gC l G yX9_canReckon cX9_canReckon 4 (some .boolean) 2 42 [.ref (G.2.2.1 0), .int a1, .int a2, .int a3] σ r σ' := by
  refine gC_of (by decide) (Nat.le_of_ble_eq_true rfl) ?_
  intro p e s m below meth c hx hb hr ht hown hlk hml hE hP ls hl
  have hS : va_S (gA G) s.heap s.heap [] := va_S.rf
  have hl : lv_has ls 4 [(0, .ref (G.2.2.1 0)), (1, .int a1), (2, .int a2), (3, .int a3)] := hl
  unfold M_X9_canReckon at h
  refine lv_aload_n hx hb dX9_canReckon_0 rfl (lv_at hl 0 rfl) ?_
  refine g_get hx hb ht hown hE hP (by decide) gE_0 uX9 rfl 0 (by decide) m_331 rfl rfl dX9_canReckon_1 ?_
  refine g_get hx hb ht hown hE hP (by decide) gE_1 uX0 rfl 1 (by decide) m_249 rfl rfl dX9_canReckon_4 ?_
  refine lv_iload_n hx hb dX9_canReckon_7 rfl (lv_at hl 1 rfl) ?_
  obtain ⟨r2, σ1, hcr2, h⟩ := g_bd h
  refine g_callV (As := [.int a1]) (n := 1) hx hb hml hown ht (c_X5_has l G _ _ hcr2) m_395 m_396 m_397 m_34 m_398 (by decide +kernel) (by decide) gE_11 rfl hE hP hS (fun _ h => h) (fun _ _ h => h) rfl hl.1 rfl (Nat.le_of_ble_eq_true rfl) dX9_canReckon_8 ⟨by decide, by decide⟩ ⟨Nat.zero_le _, Nat.zero_le _⟩ (fun H locs hP hS => ?_)
  refine lv_if_eq (tgt := 32) hx hb dX9_canReckon_11 (by decide) (fun c3 => ?_) (fun c3 => ?_)
  · have h := g_ift c3 h
    refine lv_iconst (v := 0) hx hb dX9_canReckon_32 (by decide) ?_
    exact g_zret hx hb hr hlk hE hP hS (by decide) h dX9_canReckon_33
  · have h := g_iff c3 h
    refine lv_iload_n hx hb dX9_canReckon_14 rfl (lv_at hl 2 rfl) ?_
    obtain ⟨r5, σ4, hcr5, h⟩ := g_bd h
    refine g_callS (As := [.int a2]) (n := 1) hx hb hml hown ht (c_X9_isDay l G _ _ hcr5) m_380 m_381 m_31 m_382 (by decide +kernel) hE hP hS (fun _ h => h) (fun _ _ h => h) rfl hl.1 rfl (Nat.le_of_ble_eq_true rfl) dX9_canReckon_15 ⟨by decide, by decide⟩ ⟨Nat.zero_le _, Nat.zero_le _⟩ (fun H locs hP hS => ?_)
    refine lv_if_eq (tgt := 32) hx hb dX9_canReckon_18 (by decide) (fun c6 => ?_) (fun c6 => ?_)
    · have h := g_ift c6 h
      refine lv_iconst (v := 0) hx hb dX9_canReckon_32 (by decide) ?_
      exact g_zret hx hb hr hlk hE hP hS (by decide) h dX9_canReckon_33
    · have h := g_iff c6 h
      refine lv_iload_n hx hb dX9_canReckon_21 rfl (lv_at hl 3 rfl) ?_
      obtain ⟨r8, σ7, hcr8, h⟩ := g_bd h
      refine g_callS (As := [.int a3]) (n := 1) hx hb hml hown ht (c_X9_isDay l G _ _ hcr8) m_380 m_381 m_31 m_382 (by decide +kernel) hE hP hS (fun _ h => h) (fun _ _ h => h) rfl hl.1 rfl (Nat.le_of_ble_eq_true rfl) dX9_canReckon_22 ⟨by decide, by decide⟩ ⟨Nat.zero_le _, Nat.zero_le _⟩ (fun H locs hP hS => ?_)
      refine lv_if_eq (tgt := 32) hx hb dX9_canReckon_25 (by decide) (fun c9 => ?_) (fun c9 => ?_)
      · have h := g_ift c9 h
        refine lv_iconst (v := 0) hx hb dX9_canReckon_32 (by decide) ?_
        exact g_zret hx hb hr hlk hE hP hS (by decide) h dX9_canReckon_33
      · have h := g_iff c9 h
        refine lv_iconst (v := 1) hx hb dX9_canReckon_28 (by decide) ?_
        refine lv_goto (tgt := 33) hx hb dX9_canReckon_29 (by decide) ?_
        exact g_zret hx hb hr hlk hE hP hS (by decide) h dX9_canReckon_33

def M_X9_parish (a1 : Int32) (σ : gSt) : gO :=
  gBd (M_X9_within a1 0 10000 σ) (fun r2 σ1 => if r2 = 0 then (gBd (M_X9_finding (-100001) σ1) (fun r10 σ9 => some (r10, σ9))) else (if (σ1 2 0) < 6 then (gBd (M_X4_add a1 σ1) (fun r6 σ5 => some (r6, σ5))) else (gBd (M_X9_finding (-100005) σ1) (fun r8 σ7 => some (r8, σ7)))))
set_option maxHeartbeats 4000000 in
set_option maxRecDepth 100000 in
theorem c_X9_parish (l : Launch) (G : gPar) (a1 : Int32) (σ : gSt) {r : Int32} {σ' : gSt} (h : M_X9_parish a1 σ = some (r, σ')) : gC l G yX9_parish cX9_parish 2 (some .int) 1 22 [.ref (G.2.2.1 0), .int a1] σ r σ' := by
  refine gC_of (by decide) (Nat.le_of_ble_eq_true rfl) ?_
  intro p e s m below meth c hx hb hr ht hown hlk hml hE hP ls hl
  have hS : va_S (gA G) s.heap s.heap [] := va_S.rf
  have hl : lv_has ls 2 [(0, .ref (G.2.2.1 0)), (1, .int a1)] := hl
  unfold M_X9_parish at h
  refine lv_iload_n hx hb dX9_parish_0 rfl (lv_at hl 1 rfl) ?_
  refine lv_iconst (v := 0) hx hb dX9_parish_1 (by decide) ?_
  refine lv_sipush (v := 10000) hx hb dX9_parish_2 (by decide) ?_
  obtain ⟨r2, σ1, hcr2, h⟩ := g_bd h
  refine g_callS (As := [.int a1, .int 0, .int 10000]) (n := 3) hx hb hml hown ht (c_X9_within l G _ _ _ _ hcr2) m_354 m_355 m_31 m_356 (by decide +kernel) hE hP hS (fun _ h => h) (fun _ _ h => h) rfl hl.1 rfl (Nat.le_of_ble_eq_true rfl) dX9_parish_5 ⟨by decide, by decide⟩ ⟨Nat.zero_le _, Nat.zero_le _⟩ (fun H locs hP hS => ?_)
  refine lv_if_ne (tgt := 18) hx hb dX9_parish_8 (by decide) (fun c3 => ?_) (fun c3 => ?_)
  · have h := g_iff c3 h
    refine lv_aload_n hx hb dX9_parish_18 rfl (lv_at hl 0 rfl) ?_
    refine g_get hx hb ht hown hE hP (by decide) gE_0 uX9 rfl 0 (by decide) m_331 rfl rfl dX9_parish_19 ?_
    refine g_get hx hb ht hown hE hP (by decide) gE_1 uX0 rfl 0 (by decide) m_247 rfl rfl dX9_parish_22 ?_
    refine g_get hx hb ht hown hE hP (by decide) gE_2 uX4 rfl 0 (by decide) m_69 rfl rfl dX9_parish_25 ?_
    refine lv_bipush (v := 6) hx hb dX9_parish_28 (by decide) ?_
    refine lv_icmp_lt (tgt := 40) hx hb dX9_parish_30 (by decide) (fun c4 => ?_) (fun c4 => ?_)
    · have h := g_ift c4 h
      refine lv_aload_n hx hb dX9_parish_40 rfl (lv_at hl 0 rfl) ?_
      refine g_get hx hb ht hown hE hP (by decide) gE_0 uX9 rfl 0 (by decide) m_331 rfl rfl dX9_parish_41 ?_
      refine g_get hx hb ht hown hE hP (by decide) gE_1 uX0 rfl 0 (by decide) m_247 rfl rfl dX9_parish_44 ?_
      refine lv_iload_n hx hb dX9_parish_47 rfl (lv_at hl 1 rfl) ?_
      obtain ⟨r6, σ5, hcr6, h⟩ := g_bd h
      refine g_callV (As := [.int a1]) (n := 1) hx hb hml hown ht (c_X4_add l G _ _ hcr6) m_363 m_364 m_365 m_33 m_366 (by decide +kernel) (by decide) gE_2 rfl hE hP hS (fun _ h => h) (fun _ _ h => h) rfl hl.1 rfl (Nat.le_of_ble_eq_true rfl) dX9_parish_48 ⟨by decide, by decide⟩ ⟨Nat.zero_le _, Nat.zero_le _⟩ (fun H locs hP hS => ?_)
      exact g_iret hx hb hr hlk hE hP hS h dX9_parish_51
    · have h := g_iff c4 h
      refine lv_aload_n hx hb dX9_parish_33 rfl (lv_at hl 0 rfl) ?_
      refine lv_ldc hx hb hown (ht _ m_362) dX9_parish_34 ?_
      obtain ⟨r8, σ7, hcr8, h⟩ := g_bd h
      refine g_callV (As := [.int (-100005)]) (n := 1) hx hb hml hown ht (c_X9_finding l G _ _ hcr8) m_358 m_360 m_0 m_31 m_361 (by decide +kernel) (by decide) gE_0 rfl hE hP hS (fun _ h => h) (fun _ _ h => h) rfl hl.1 rfl (Nat.le_of_ble_eq_true rfl) dX9_parish_36 ⟨by decide, by decide⟩ ⟨Nat.zero_le _, Nat.zero_le _⟩ (fun H locs hP hS => ?_)
      exact g_iret hx hb hr hlk hE hP hS h dX9_parish_39
  · have h := g_ift c3 h
    refine lv_aload_n hx hb dX9_parish_11 rfl (lv_at hl 0 rfl) ?_
    refine lv_ldc hx hb hown (ht _ m_357) dX9_parish_12 ?_
    obtain ⟨r10, σ9, hcr10, h⟩ := g_bd h
    refine g_callV (As := [.int (-100001)]) (n := 1) hx hb hml hown ht (c_X9_finding l G _ _ hcr10) m_358 m_360 m_0 m_31 m_361 (by decide +kernel) (by decide) gE_0 rfl hE hP hS (fun _ h => h) (fun _ _ h => h) rfl hl.1 rfl (Nat.le_of_ble_eq_true rfl) dX9_parish_14 ⟨by decide, by decide⟩ ⟨Nat.zero_le _, Nat.zero_le _⟩ (fun H locs hP hS => ?_)
    exact g_iret hx hb hr hlk hE hP hS h dX9_parish_17

def M_X9_miles (a1 a2 a3 : Int32) (σ : gSt) : gO :=
  gBd (M_X4_has a1 σ) (fun r2 σ1 => if r2 = 0 then (gBd (M_X9_finding (-100001) σ1) (fun r5 σ4 => some (r5, σ4))) else (gBd (M_X4_has a2 σ1) (fun r7 σ6 => if r7 = 0 then (gBd (M_X9_finding (-100001) σ6) (fun r10 σ9 => some (r10, σ9))) else (gBd (M_X9_within a3 0 99 σ6) (fun r12 σ11 => if r12 = 0 then (gBd (M_X9_finding (-100001) σ11) (fun r27 σ26 => some (r27, σ26))) else (if a1 = a2 then (gBd (M_X9_finding (-100003) σ11) (fun r25 σ24 => some (r25, σ24))) else (gIx 6 a1 (gIx 6 a2 (gNm ((σ11 (5 + a1.toNatClampNeg) a2.toNatClampNeg) : Int32) (fun x17 => gIx 6 a1 (gIx 6 a2 (gNm (gUp σ11 (5 + a1.toNatClampNeg) a2.toNatClampNeg a3) (fun σ20 => gIx 6 a2 (gIx 6 a1 (gNm (gUp σ20 (5 + a2.toNatClampNeg) a1.toNatClampNeg a3) (fun σ23 => some (x17, σ23)))))))))))))))))
set_option maxHeartbeats 4000000 in
set_option maxRecDepth 100000 in
theorem c_X9_miles (l : Launch) (G : gPar) (a1 a2 a3 : Int32) (σ : gSt) {r : Int32} {σ' : gSt} (h : M_X9_miles a1 a2 a3 σ = some (r, σ')) : gC l G yX9_miles cX9_miles 5 (some .int) 1 22 [.ref (G.2.2.1 0), .int a1, .int a2, .int a3] σ r σ' := by
  refine gC_of (by decide) (Nat.le_of_ble_eq_true rfl) ?_
  intro p e s m below meth c hx hb hr ht hown hlk hml hE hP ls hl
  have hS : va_S (gA G) s.heap s.heap [] := va_S.rf
  have hl : lv_has ls 5 [(0, .ref (G.2.2.1 0)), (1, .int a1), (2, .int a2), (3, .int a3)] := hl
  unfold M_X9_miles at h
  refine lv_aload_n hx hb dX9_miles_0 rfl (lv_at hl 0 rfl) ?_
  refine g_get hx hb ht hown hE hP (by decide) gE_0 uX9 rfl 0 (by decide) m_331 rfl rfl dX9_miles_1 ?_
  refine g_get hx hb ht hown hE hP (by decide) gE_1 uX0 rfl 0 (by decide) m_247 rfl rfl dX9_miles_4 ?_
  refine lv_iload_n hx hb dX9_miles_7 rfl (lv_at hl 1 rfl) ?_
  obtain ⟨r2, σ1, hcr2, h⟩ := g_bd h
  refine g_callV (As := [.int a1]) (n := 1) hx hb hml hown ht (c_X4_has l G _ _ hcr2) m_371 m_372 m_373 m_33 m_374 (by decide +kernel) (by decide) gE_2 rfl hE hP hS (fun _ h => h) (fun _ _ h => h) rfl hl.1 rfl (Nat.le_of_ble_eq_true rfl) dX9_miles_8 ⟨by decide, by decide⟩ ⟨Nat.zero_le _, Nat.zero_le _⟩ (fun H locs hP hS => ?_)
  refine lv_if_eq (tgt := 38) hx hb dX9_miles_11 (by decide) (fun c3 => ?_) (fun c3 => ?_)
  · have h := g_ift c3 h
    refine lv_aload_n hx hb dX9_miles_38 rfl (lv_at hl 0 rfl) ?_
    refine lv_ldc hx hb hown (ht _ m_357) dX9_miles_39 ?_
    obtain ⟨r5, σ4, hcr5, h⟩ := g_bd h
    refine g_callV (As := [.int (-100001)]) (n := 1) hx hb hml hown ht (c_X9_finding l G _ _ hcr5) m_358 m_360 m_0 m_31 m_361 (by decide +kernel) (by decide) gE_0 rfl hE hP hS (fun _ h => h) (fun _ _ h => h) rfl hl.1 rfl (Nat.le_of_ble_eq_true rfl) dX9_miles_41 ⟨by decide, by decide⟩ ⟨Nat.zero_le _, Nat.zero_le _⟩ (fun H locs hP hS => ?_)
    exact g_iret hx hb hr hlk hE hP hS h dX9_miles_44
  · have h := g_iff c3 h
    refine lv_aload_n hx hb dX9_miles_14 rfl (lv_at hl 0 rfl) ?_
    refine g_get hx hb ht hown hE hP (by decide) gE_0 uX9 rfl 0 (by decide) m_331 rfl rfl dX9_miles_15 ?_
    refine g_get hx hb ht hown hE hP (by decide) gE_1 uX0 rfl 0 (by decide) m_247 rfl rfl dX9_miles_18 ?_
    refine lv_iload_n hx hb dX9_miles_21 rfl (lv_at hl 2 rfl) ?_
    obtain ⟨r7, σ6, hcr7, h⟩ := g_bd h
    refine g_callV (As := [.int a2]) (n := 1) hx hb hml hown ht (c_X4_has l G _ _ hcr7) m_371 m_372 m_373 m_33 m_374 (by decide +kernel) (by decide) gE_2 rfl hE hP hS (fun _ h => h) (fun _ _ h => h) rfl hl.1 rfl (Nat.le_of_ble_eq_true rfl) dX9_miles_22 ⟨by decide, by decide⟩ ⟨Nat.zero_le _, Nat.zero_le _⟩ (fun H locs hP hS => ?_)
    refine lv_if_eq (tgt := 38) hx hb dX9_miles_25 (by decide) (fun c8 => ?_) (fun c8 => ?_)
    · have h := g_ift c8 h
      refine lv_aload_n hx hb dX9_miles_38 rfl (lv_at hl 0 rfl) ?_
      refine lv_ldc hx hb hown (ht _ m_357) dX9_miles_39 ?_
      obtain ⟨r10, σ9, hcr10, h⟩ := g_bd h
      refine g_callV (As := [.int (-100001)]) (n := 1) hx hb hml hown ht (c_X9_finding l G _ _ hcr10) m_358 m_360 m_0 m_31 m_361 (by decide +kernel) (by decide) gE_0 rfl hE hP hS (fun _ h => h) (fun _ _ h => h) rfl hl.1 rfl (Nat.le_of_ble_eq_true rfl) dX9_miles_41 ⟨by decide, by decide⟩ ⟨Nat.zero_le _, Nat.zero_le _⟩ (fun H locs hP hS => ?_)
      exact g_iret hx hb hr hlk hE hP hS h dX9_miles_44
    · have h := g_iff c8 h
      refine lv_iload_n hx hb dX9_miles_28 rfl (lv_at hl 3 rfl) ?_
      refine lv_iconst (v := 0) hx hb dX9_miles_29 (by decide) ?_
      refine lv_bipush (v := 99) hx hb dX9_miles_30 (by decide) ?_
      obtain ⟨r12, σ11, hcr12, h⟩ := g_bd h
      refine g_callS (As := [.int a3, .int 0, .int 99]) (n := 3) hx hb hml hown ht (c_X9_within l G _ _ _ _ hcr12) m_354 m_355 m_31 m_356 (by decide +kernel) hE hP hS (fun _ h => h) (fun _ _ h => h) rfl hl.1 rfl (Nat.le_of_ble_eq_true rfl) dX9_miles_32 ⟨by decide, by decide⟩ ⟨Nat.zero_le _, Nat.zero_le _⟩ (fun H locs hP hS => ?_)
      refine lv_if_ne (tgt := 45) hx hb dX9_miles_35 (by decide) (fun c13 => ?_) (fun c13 => ?_)
      · have h := g_iff c13 h
        refine lv_iload_n hx hb dX9_miles_45 rfl (lv_at hl 1 rfl) ?_
        refine lv_iload_n hx hb dX9_miles_46 rfl (lv_at hl 2 rfl) ?_
        refine lv_icmp_ne (tgt := 57) hx hb dX9_miles_47 (by decide) (fun c14 => ?_) (fun c14 => ?_)
        · have h := g_iff c14 h
          refine lv_aload_n hx hb dX9_miles_57 rfl (lv_at hl 0 rfl) ?_
          refine g_get hx hb ht hown hE hP (by decide) gE_0 uX9 rfl 0 (by decide) m_331 rfl rfl dX9_miles_58 ?_
          refine g_get hx hb ht hown hE hP (by decide) gE_1 uX0 rfl 0 (by decide) m_247 rfl rfl dX9_miles_61 ?_
          refine g_get hx hb ht hown hE hP (by decide) gE_2 uX4 rfl 2 (by decide) m_72 rfl rfl dX9_miles_64 ?_
          refine lv_iload_n hx hb dX9_miles_67 rfl (lv_at hl 1 rfl) ?_
          obtain ⟨i15, h⟩ := g_ix h
          have ji15 := g_lt i15
          refine g_aald hx hb hE hP 1 (by decide) rfl rfl rfl i15 dX9_miles_68 ?_
          refine lv_iload_n hx hb dX9_miles_69 rfl (lv_at hl 2 rfl) ?_
          obtain ⟨i16, h⟩ := g_ix h
          refine g_iald hx hb hE hP (show 5 + a1.toNatClampNeg < 110 by omega) (gL_mile ji15) (by decide) i16 dX9_miles_70 ?_
          refine lv_topi (fun x17 ex17 => ?_)
          have h := g_nm ex17 h
          refine lv_istore (lv' := [(4, .int x17), (0, .ref (G.2.2.1 0)), (1, .int a1), (2, .int a2), (3, .int a3)]) hx hb dX9_miles_71 hl (by decide) rfl (fun ls hl => ?_)
          refine lv_aload_n hx hb dX9_miles_73 rfl (lv_at hl 1 rfl) ?_
          refine g_get hx hb ht hown hE hP (by decide) gE_0 uX9 rfl 0 (by decide) m_331 rfl rfl dX9_miles_74 ?_
          refine g_get hx hb ht hown hE hP (by decide) gE_1 uX0 rfl 0 (by decide) m_247 rfl rfl dX9_miles_77 ?_
          refine g_get hx hb ht hown hE hP (by decide) gE_2 uX4 rfl 2 (by decide) m_72 rfl rfl dX9_miles_80 ?_
          refine lv_iload_n hx hb dX9_miles_83 rfl (lv_at hl 2 rfl) ?_
          obtain ⟨i18, h⟩ := g_ix h
          have ji18 := g_lt i18
          refine g_aald hx hb hE hP 1 (by decide) rfl rfl rfl i18 dX9_miles_84 ?_
          refine lv_iload_n hx hb dX9_miles_85 rfl (lv_at hl 3 rfl) ?_
          refine lv_iload_n hx hb dX9_miles_86 rfl (lv_at hl 4 rfl) ?_
          obtain ⟨i19, h⟩ := g_ix h
          refine g_iast hx hb hE hP hS (show 5 + a1.toNatClampNeg < 110 by omega) (gL_mile ji18) (by decide) i19 dX9_miles_87 (fun H locs σ20 eσ20 hP hS => ?_)
          have h := g_nm eσ20 h
          refine lv_aload_n hx hb dX9_miles_88 rfl (lv_at hl 1 rfl) ?_
          refine g_get hx hb ht hown hE hP (by decide) gE_0 uX9 rfl 0 (by decide) m_331 rfl rfl dX9_miles_89 ?_
          refine g_get hx hb ht hown hE hP (by decide) gE_1 uX0 rfl 0 (by decide) m_247 rfl rfl dX9_miles_92 ?_
          refine g_get hx hb ht hown hE hP (by decide) gE_2 uX4 rfl 2 (by decide) m_72 rfl rfl dX9_miles_95 ?_
          refine lv_iload_n hx hb dX9_miles_98 rfl (lv_at hl 3 rfl) ?_
          obtain ⟨i21, h⟩ := g_ix h
          have ji21 := g_lt i21
          refine g_aald hx hb hE hP 1 (by decide) rfl rfl rfl i21 dX9_miles_99 ?_
          refine lv_iload_n hx hb dX9_miles_100 rfl (lv_at hl 2 rfl) ?_
          refine lv_iload_n hx hb dX9_miles_101 rfl (lv_at hl 4 rfl) ?_
          obtain ⟨i22, h⟩ := g_ix h
          refine g_iast hx hb hE hP hS (show 5 + a2.toNatClampNeg < 110 by omega) (gL_mile ji21) (by decide) i22 dX9_miles_102 (fun H locs σ23 eσ23 hP hS => ?_)
          have h := g_nm eσ23 h
          refine lv_iload hx hb dX9_miles_103 (lv_at hl 0 rfl) ?_
          exact g_iret hx hb hr hlk hE hP hS h dX9_miles_105
        · have h := g_ift c14 h
          refine lv_aload_n hx hb dX9_miles_50 rfl (lv_at hl 0 rfl) ?_
          refine lv_ldc hx hb hown (ht _ m_375) dX9_miles_51 ?_
          obtain ⟨r25, σ24, hcr25, h⟩ := g_bd h
          refine g_callV (As := [.int (-100003)]) (n := 1) hx hb hml hown ht (c_X9_finding l G _ _ hcr25) m_358 m_360 m_0 m_31 m_361 (by decide +kernel) (by decide) gE_0 rfl hE hP hS (fun _ h => h) (fun _ _ h => h) rfl hl.1 rfl (Nat.le_of_ble_eq_true rfl) dX9_miles_53 ⟨by decide, by decide⟩ ⟨Nat.zero_le _, Nat.zero_le _⟩ (fun H locs hP hS => ?_)
          exact g_iret hx hb hr hlk hE hP hS h dX9_miles_56
      · have h := g_ift c13 h
        refine lv_aload_n hx hb dX9_miles_38 rfl (lv_at hl 0 rfl) ?_
        refine lv_ldc hx hb hown (ht _ m_357) dX9_miles_39 ?_
        obtain ⟨r27, σ26, hcr27, h⟩ := g_bd h
        refine g_callV (As := [.int (-100001)]) (n := 1) hx hb hml hown ht (c_X9_finding l G _ _ hcr27) m_358 m_360 m_0 m_31 m_361 (by decide +kernel) (by decide) gE_0 rfl hE hP hS (fun _ h => h) (fun _ _ h => h) rfl hl.1 rfl (Nat.le_of_ble_eq_true rfl) dX9_miles_41 ⟨by decide, by decide⟩ ⟨Nat.zero_le _, Nat.zero_le _⟩ (fun H locs hP hS => ?_)
        exact g_iret hx hb hr hlk hE hP hS h dX9_miles_44

def M_X9_person (a1 a2 a3 : Int32) (σ : gSt) : gO :=
  gBd (M_X9_within a1 0 3 σ) (fun r2 σ1 => if r2 = 0 then (gBd (M_X9_finding (-100001) σ1) (fun r5 σ4 => some (r5, σ4))) else (gBd (M_X4_has a2 σ1) (fun r7 σ6 => if r7 = 0 then (gBd (M_X9_finding (-100001) σ6) (fun r10 σ9 => some (r10, σ9))) else (gBd (M_X9_isDay a3 σ6) (fun r12 σ11 => if r12 = 0 then (gBd (M_X9_finding (-100001) σ11) (fun r22 σ21 => some (r22, σ21))) else (if (σ11 11 0) < 10 then (gBd (M_X5_add a1 a2 a3 σ11) (fun r16 σ15 => gBd (M_X6_enter r16 σ15) (fun r18 σ17 => some (r16, σ17)))) else (gBd (M_X9_finding (-100005) σ11) (fun r20 σ19 => some (r20, σ19)))))))))
set_option maxHeartbeats 4000000 in
set_option maxRecDepth 100000 in
theorem c_X9_person (l : Launch) (G : gPar) (a1 a2 a3 : Int32) (σ : gSt) {r : Int32} {σ' : gSt} (h : M_X9_person a1 a2 a3 σ = some (r, σ')) : gC l G yX9_person cX9_person 5 (some .int) 2 42 [.ref (G.2.2.1 0), .int a1, .int a2, .int a3] σ r σ' := by
  refine gC_of (by decide) (Nat.le_of_ble_eq_true rfl) ?_
  intro p e s m below meth c hx hb hr ht hown hlk hml hE hP ls hl
  have hS : va_S (gA G) s.heap s.heap [] := va_S.rf
  have hl : lv_has ls 5 [(0, .ref (G.2.2.1 0)), (1, .int a1), (2, .int a2), (3, .int a3)] := hl
  unfold M_X9_person at h
  refine lv_iload_n hx hb dX9_person_0 rfl (lv_at hl 1 rfl) ?_
  refine lv_iconst (v := 0) hx hb dX9_person_1 (by decide) ?_
  refine lv_iconst (v := 3) hx hb dX9_person_2 (by decide) ?_
  obtain ⟨r2, σ1, hcr2, h⟩ := g_bd h
  refine g_callS (As := [.int a1, .int 0, .int 3]) (n := 3) hx hb hml hown ht (c_X9_within l G _ _ _ _ hcr2) m_354 m_355 m_31 m_356 (by decide +kernel) hE hP hS (fun _ h => h) (fun _ _ h => h) rfl hl.1 rfl (Nat.le_of_ble_eq_true rfl) dX9_person_3 ⟨by decide, by decide⟩ ⟨Nat.zero_le _, Nat.zero_le _⟩ (fun H locs hP hS => ?_)
  refine lv_if_eq (tgt := 30) hx hb dX9_person_6 (by decide) (fun c3 => ?_) (fun c3 => ?_)
  · have h := g_ift c3 h
    refine lv_aload_n hx hb dX9_person_30 rfl (lv_at hl 0 rfl) ?_
    refine lv_ldc hx hb hown (ht _ m_357) dX9_person_31 ?_
    obtain ⟨r5, σ4, hcr5, h⟩ := g_bd h
    refine g_callV (As := [.int (-100001)]) (n := 1) hx hb hml hown ht (c_X9_finding l G _ _ hcr5) m_358 m_360 m_0 m_31 m_361 (by decide +kernel) (by decide) gE_0 rfl hE hP hS (fun _ h => h) (fun _ _ h => h) rfl hl.1 rfl (Nat.le_of_ble_eq_true rfl) dX9_person_33 ⟨by decide, by decide⟩ ⟨Nat.zero_le _, Nat.zero_le _⟩ (fun H locs hP hS => ?_)
    exact g_iret hx hb hr hlk hE hP hS h dX9_person_36
  · have h := g_iff c3 h
    refine lv_aload_n hx hb dX9_person_9 rfl (lv_at hl 0 rfl) ?_
    refine g_get hx hb ht hown hE hP (by decide) gE_0 uX9 rfl 0 (by decide) m_331 rfl rfl dX9_person_10 ?_
    refine g_get hx hb ht hown hE hP (by decide) gE_1 uX0 rfl 0 (by decide) m_247 rfl rfl dX9_person_13 ?_
    refine lv_iload_n hx hb dX9_person_16 rfl (lv_at hl 2 rfl) ?_
    obtain ⟨r7, σ6, hcr7, h⟩ := g_bd h
    refine g_callV (As := [.int a2]) (n := 1) hx hb hml hown ht (c_X4_has l G _ _ hcr7) m_371 m_372 m_373 m_33 m_374 (by decide +kernel) (by decide) gE_2 rfl hE hP hS (fun _ h => h) (fun _ _ h => h) rfl hl.1 rfl (Nat.le_of_ble_eq_true rfl) dX9_person_17 ⟨by decide, by decide⟩ ⟨Nat.zero_le _, Nat.zero_le _⟩ (fun H locs hP hS => ?_)
    refine lv_if_eq (tgt := 30) hx hb dX9_person_20 (by decide) (fun c8 => ?_) (fun c8 => ?_)
    · have h := g_ift c8 h
      refine lv_aload_n hx hb dX9_person_30 rfl (lv_at hl 0 rfl) ?_
      refine lv_ldc hx hb hown (ht _ m_357) dX9_person_31 ?_
      obtain ⟨r10, σ9, hcr10, h⟩ := g_bd h
      refine g_callV (As := [.int (-100001)]) (n := 1) hx hb hml hown ht (c_X9_finding l G _ _ hcr10) m_358 m_360 m_0 m_31 m_361 (by decide +kernel) (by decide) gE_0 rfl hE hP hS (fun _ h => h) (fun _ _ h => h) rfl hl.1 rfl (Nat.le_of_ble_eq_true rfl) dX9_person_33 ⟨by decide, by decide⟩ ⟨Nat.zero_le _, Nat.zero_le _⟩ (fun H locs hP hS => ?_)
      exact g_iret hx hb hr hlk hE hP hS h dX9_person_36
    · have h := g_iff c8 h
      refine lv_iload_n hx hb dX9_person_23 rfl (lv_at hl 3 rfl) ?_
      obtain ⟨r12, σ11, hcr12, h⟩ := g_bd h
      refine g_callS (As := [.int a3]) (n := 1) hx hb hml hown ht (c_X9_isDay l G _ _ hcr12) m_380 m_381 m_31 m_382 (by decide +kernel) hE hP hS (fun _ h => h) (fun _ _ h => h) rfl hl.1 rfl (Nat.le_of_ble_eq_true rfl) dX9_person_24 ⟨by decide, by decide⟩ ⟨Nat.zero_le _, Nat.zero_le _⟩ (fun H locs hP hS => ?_)
      refine lv_if_ne (tgt := 37) hx hb dX9_person_27 (by decide) (fun c13 => ?_) (fun c13 => ?_)
      · have h := g_iff c13 h
        refine lv_aload_n hx hb dX9_person_37 rfl (lv_at hl 0 rfl) ?_
        refine g_get hx hb ht hown hE hP (by decide) gE_0 uX9 rfl 0 (by decide) m_331 rfl rfl dX9_person_38 ?_
        refine g_get hx hb ht hown hE hP (by decide) gE_1 uX0 rfl 1 (by decide) m_249 rfl rfl dX9_person_41 ?_
        refine g_get hx hb ht hown hE hP (by decide) gE_11 uX5 rfl 0 (by decide) m_89 rfl rfl dX9_person_44 ?_
        refine lv_bipush (v := 10) hx hb dX9_person_47 (by decide) ?_
        refine lv_icmp_lt (tgt := 59) hx hb dX9_person_49 (by decide) (fun c14 => ?_) (fun c14 => ?_)
        · have h := g_ift c14 h
          refine lv_aload_n hx hb dX9_person_59 rfl (lv_at hl 0 rfl) ?_
          refine g_get hx hb ht hown hE hP (by decide) gE_0 uX9 rfl 0 (by decide) m_331 rfl rfl dX9_person_60 ?_
          refine g_get hx hb ht hown hE hP (by decide) gE_1 uX0 rfl 1 (by decide) m_249 rfl rfl dX9_person_63 ?_
          refine lv_iload_n hx hb dX9_person_66 rfl (lv_at hl 1 rfl) ?_
          refine lv_iload_n hx hb dX9_person_67 rfl (lv_at hl 2 rfl) ?_
          refine lv_iload_n hx hb dX9_person_68 rfl (lv_at hl 3 rfl) ?_
          obtain ⟨r16, σ15, hcr16, h⟩ := g_bd h
          refine g_callV (As := [.int a1, .int a2, .int a3]) (n := 3) hx hb hml hown ht (c_X5_add l G _ _ _ _ hcr16) m_383 m_384 m_385 m_34 m_386 (by decide +kernel) (by decide) gE_11 rfl hE hP hS (fun _ h => h) (fun _ _ h => h) rfl hl.1 rfl (Nat.le_of_ble_eq_true rfl) dX9_person_69 ⟨by decide, by decide⟩ ⟨Nat.zero_le _, Nat.zero_le _⟩ (fun H locs hP hS => ?_)
          refine lv_istore (lv' := [(4, .int r16), (0, .ref (G.2.2.1 0)), (1, .int a1), (2, .int a2), (3, .int a3)]) hx hb dX9_person_72 hl (by decide) rfl (fun ls hl => ?_)
          refine lv_aload_n hx hb dX9_person_74 rfl (lv_at hl 1 rfl) ?_
          refine g_get hx hb ht hown hE hP (by decide) gE_0 uX9 rfl 0 (by decide) m_331 rfl rfl dX9_person_75 ?_
          refine g_get hx hb ht hown hE hP (by decide) gE_1 uX0 rfl 5 (by decide) m_260 rfl rfl dX9_person_78 ?_
          refine lv_iload hx hb dX9_person_81 (lv_at hl 0 rfl) ?_
          obtain ⟨r18, σ17, hcr18, h⟩ := g_bd h
          refine g_callVv (As := [.int r16]) (n := 1) hx hb hml hown ht (c_X6_enter l G _ _ hcr18) m_387 m_388 m_389 m_38 m_390 (by decide +kernel) (by decide) gE_38 rfl hE hP hS (fun _ h => h) (fun _ _ h => h) rfl hl.1 rfl (Nat.le_of_ble_eq_true rfl) dX9_person_83 ⟨by decide, by decide⟩ ⟨Nat.zero_le _, Nat.zero_le _⟩ (fun H locs hP hS => ?_)
          refine lv_iload hx hb dX9_person_86 (lv_at hl 0 rfl) ?_
          exact g_iret hx hb hr hlk hE hP hS h dX9_person_88
        · have h := g_iff c14 h
          refine lv_aload_n hx hb dX9_person_52 rfl (lv_at hl 0 rfl) ?_
          refine lv_ldc hx hb hown (ht _ m_362) dX9_person_53 ?_
          obtain ⟨r20, σ19, hcr20, h⟩ := g_bd h
          refine g_callV (As := [.int (-100005)]) (n := 1) hx hb hml hown ht (c_X9_finding l G _ _ hcr20) m_358 m_360 m_0 m_31 m_361 (by decide +kernel) (by decide) gE_0 rfl hE hP hS (fun _ h => h) (fun _ _ h => h) rfl hl.1 rfl (Nat.le_of_ble_eq_true rfl) dX9_person_55 ⟨by decide, by decide⟩ ⟨Nat.zero_le _, Nat.zero_le _⟩ (fun H locs hP hS => ?_)
          exact g_iret hx hb hr hlk hE hP hS h dX9_person_58
      · have h := g_ift c13 h
        refine lv_aload_n hx hb dX9_person_30 rfl (lv_at hl 0 rfl) ?_
        refine lv_ldc hx hb hown (ht _ m_357) dX9_person_31 ?_
        obtain ⟨r22, σ21, hcr22, h⟩ := g_bd h
        refine g_callV (As := [.int (-100001)]) (n := 1) hx hb hml hown ht (c_X9_finding l G _ _ hcr22) m_358 m_360 m_0 m_31 m_361 (by decide +kernel) (by decide) gE_0 rfl hE hP hS (fun _ h => h) (fun _ _ h => h) rfl hl.1 rfl (Nat.le_of_ble_eq_true rfl) dX9_person_33 ⟨by decide, by decide⟩ ⟨Nat.zero_le _, Nat.zero_le _⟩ (fun H locs hP hS => ?_)
        exact g_iret hx hb hr hlk hE hP hS h dX9_person_36

def M_X9_as (a1 a2 : Int32) (σ : gSt) : gO :=
  gBd (M_X5_has a1 σ) (fun r2 σ1 => if r2 = 0 then (gBd (M_X9_finding (-100001) σ1) (fun r5 σ4 => some (r5, σ4))) else (gBd (M_X9_within a2 0 3 σ1) (fun r7 σ6 => if r7 = 0 then (gBd (M_X9_finding (-100001) σ6) (fun r15 σ14 => some (r15, σ14))) else (gBd (M_X5_isOf a1 a2 σ6) (fun r10 σ9 => if r10 = 0 then (gBd (M_X9_finding (-100004) σ9) (fun r13 σ12 => some (r13, σ12))) else (some (a1, σ9)))))))
set_option maxHeartbeats 4000000 in
set_option maxRecDepth 100000 in
theorem c_X9_as (l : Launch) (G : gPar) (a1 a2 : Int32) (σ : gSt) {r : Int32} {σ' : gSt} (h : M_X9_as a1 a2 σ = some (r, σ')) : gC l G yX9_as cX9_as 3 (some .int) 1 24 [.ref (G.2.2.1 0), .int a1, .int a2] σ r σ' := by
  refine gC_of (by decide) (Nat.le_of_ble_eq_true rfl) ?_
  intro p e s m below meth c hx hb hr ht hown hlk hml hE hP ls hl
  have hS : va_S (gA G) s.heap s.heap [] := va_S.rf
  have hl : lv_has ls 3 [(0, .ref (G.2.2.1 0)), (1, .int a1), (2, .int a2)] := hl
  unfold M_X9_as at h
  refine lv_aload_n hx hb dX9_as_0 rfl (lv_at hl 0 rfl) ?_
  refine g_get hx hb ht hown hE hP (by decide) gE_0 uX9 rfl 0 (by decide) m_331 rfl rfl dX9_as_1 ?_
  refine g_get hx hb ht hown hE hP (by decide) gE_1 uX0 rfl 1 (by decide) m_249 rfl rfl dX9_as_4 ?_
  refine lv_iload_n hx hb dX9_as_7 rfl (lv_at hl 1 rfl) ?_
  obtain ⟨r2, σ1, hcr2, h⟩ := g_bd h
  refine g_callV (As := [.int a1]) (n := 1) hx hb hml hown ht (c_X5_has l G _ _ hcr2) m_395 m_396 m_397 m_34 m_398 (by decide +kernel) (by decide) gE_11 rfl hE hP hS (fun _ h => h) (fun _ _ h => h) rfl hl.1 rfl (Nat.le_of_ble_eq_true rfl) dX9_as_8 ⟨by decide, by decide⟩ ⟨Nat.zero_le _, Nat.zero_le _⟩ (fun H locs hP hS => ?_)
  refine lv_if_eq (tgt := 23) hx hb dX9_as_11 (by decide) (fun c3 => ?_) (fun c3 => ?_)
  · have h := g_ift c3 h
    refine lv_aload_n hx hb dX9_as_23 rfl (lv_at hl 0 rfl) ?_
    refine lv_ldc hx hb hown (ht _ m_357) dX9_as_24 ?_
    obtain ⟨r5, σ4, hcr5, h⟩ := g_bd h
    refine g_callV (As := [.int (-100001)]) (n := 1) hx hb hml hown ht (c_X9_finding l G _ _ hcr5) m_358 m_360 m_0 m_31 m_361 (by decide +kernel) (by decide) gE_0 rfl hE hP hS (fun _ h => h) (fun _ _ h => h) rfl hl.1 rfl (Nat.le_of_ble_eq_true rfl) dX9_as_26 ⟨by decide, by decide⟩ ⟨Nat.zero_le _, Nat.zero_le _⟩ (fun H locs hP hS => ?_)
    exact g_iret hx hb hr hlk hE hP hS h dX9_as_29
  · have h := g_iff c3 h
    refine lv_iload_n hx hb dX9_as_14 rfl (lv_at hl 2 rfl) ?_
    refine lv_iconst (v := 0) hx hb dX9_as_15 (by decide) ?_
    refine lv_iconst (v := 3) hx hb dX9_as_16 (by decide) ?_
    obtain ⟨r7, σ6, hcr7, h⟩ := g_bd h
    refine g_callS (As := [.int a2, .int 0, .int 3]) (n := 3) hx hb hml hown ht (c_X9_within l G _ _ _ _ hcr7) m_354 m_355 m_31 m_356 (by decide +kernel) hE hP hS (fun _ h => h) (fun _ _ h => h) rfl hl.1 rfl (Nat.le_of_ble_eq_true rfl) dX9_as_17 ⟨by decide, by decide⟩ ⟨Nat.zero_le _, Nat.zero_le _⟩ (fun H locs hP hS => ?_)
    refine lv_if_ne (tgt := 30) hx hb dX9_as_20 (by decide) (fun c8 => ?_) (fun c8 => ?_)
    · have h := g_iff c8 h
      refine lv_aload_n hx hb dX9_as_30 rfl (lv_at hl 0 rfl) ?_
      refine g_get hx hb ht hown hE hP (by decide) gE_0 uX9 rfl 0 (by decide) m_331 rfl rfl dX9_as_31 ?_
      refine g_get hx hb ht hown hE hP (by decide) gE_1 uX0 rfl 1 (by decide) m_249 rfl rfl dX9_as_34 ?_
      refine lv_iload_n hx hb dX9_as_37 rfl (lv_at hl 1 rfl) ?_
      refine lv_iload_n hx hb dX9_as_38 rfl (lv_at hl 2 rfl) ?_
      obtain ⟨r10, σ9, hcr10, h⟩ := g_bd h
      refine g_callV (As := [.int a1, .int a2]) (n := 2) hx hb hml hown ht (c_X5_isOf l G _ _ _ hcr10) m_399 m_400 m_401 m_34 m_402 (by decide +kernel) (by decide) gE_11 rfl hE hP hS (fun _ h => h) (fun _ _ h => h) rfl hl.1 rfl (Nat.le_of_ble_eq_true rfl) dX9_as_39 ⟨by decide, by decide⟩ ⟨Nat.zero_le _, Nat.zero_le _⟩ (fun H locs hP hS => ?_)
      refine lv_if_ne (tgt := 52) hx hb dX9_as_42 (by decide) (fun c11 => ?_) (fun c11 => ?_)
      · have h := g_iff c11 h
        refine lv_iload_n hx hb dX9_as_52 rfl (lv_at hl 1 rfl) ?_
        exact g_iret hx hb hr hlk hE hP hS h dX9_as_53
      · have h := g_ift c11 h
        refine lv_aload_n hx hb dX9_as_45 rfl (lv_at hl 0 rfl) ?_
        refine lv_ldc hx hb hown (ht _ m_405) dX9_as_46 ?_
        obtain ⟨r13, σ12, hcr13, h⟩ := g_bd h
        refine g_callV (As := [.int (-100004)]) (n := 1) hx hb hml hown ht (c_X9_finding l G _ _ hcr13) m_358 m_360 m_0 m_31 m_361 (by decide +kernel) (by decide) gE_0 rfl hE hP hS (fun _ h => h) (fun _ _ h => h) rfl hl.1 rfl (Nat.le_of_ble_eq_true rfl) dX9_as_48 ⟨by decide, by decide⟩ ⟨Nat.zero_le _, Nat.zero_le _⟩ (fun H locs hP hS => ?_)
        exact g_iret hx hb hr hlk hE hP hS h dX9_as_51
    · have h := g_ift c8 h
      refine lv_aload_n hx hb dX9_as_23 rfl (lv_at hl 0 rfl) ?_
      refine lv_ldc hx hb hown (ht _ m_357) dX9_as_24 ?_
      obtain ⟨r15, σ14, hcr15, h⟩ := g_bd h
      refine g_callV (As := [.int (-100001)]) (n := 1) hx hb hml hown ht (c_X9_finding l G _ _ hcr15) m_358 m_360 m_0 m_31 m_361 (by decide +kernel) (by decide) gE_0 rfl hE hP hS (fun _ h => h) (fun _ _ h => h) rfl hl.1 rfl (Nat.le_of_ble_eq_true rfl) dX9_as_26 ⟨by decide, by decide⟩ ⟨Nat.zero_le _, Nat.zero_le _⟩ (fun H locs hP hS => ?_)
      exact g_iret hx hb hr hlk hE hP hS h dX9_as_29

def M_X9_husband (a1 a2 a3 : Int32) (σ : gSt) : gO :=
  if a2 = (-1) then (gBd (M_X5_has a1 σ) (fun r31 σ30 => if r31 = 0 then (gBd (M_X9_finding (-100001) σ30) (fun r34 σ33 => some (r34, σ33))) else (gIx 10 a1 (if (σ30 12 a1.toNatClampNeg) = 1 then (gBd (M_X5_comesTo a2 a1 σ30) (fun r39 σ38 => if r39 = 0 then (gBd (M_X5_follow a1 a2 0 σ38) (fun r43 σ42 => some (r43, σ42))) else (gBd (M_X9_finding (-100007) σ38) (fun r45 σ44 => some (r45, σ44))))) else (gBd (M_X9_finding (-100004) σ30) (fun r47 σ46 => some (r47, σ46))))))) else (gBd (M_X5_has a1 σ) (fun r3 σ2 => if r3 = 0 then (gBd (M_X9_finding (-100001) σ2) (fun r6 σ5 => some (r6, σ5))) else (gBd (M_X5_has a2 σ2) (fun r9 σ8 => if r9 = 0 then (gBd (M_X9_finding (-100001) σ8) (fun r12 σ11 => some (r12, σ11))) else (gBd (M_X9_isDay a3 σ8) (fun r14 σ13 => if r14 = 0 then (gBd (M_X9_finding (-100001) σ13) (fun r29 σ28 => some (r29, σ28))) else (gIx 10 a1 (if (σ13 12 a1.toNatClampNeg) = 1 then (gBd (M_X5_comesTo a2 a1 σ13) (fun r19 σ18 => if r19 = 0 then (gBd (M_X5_follow a1 a2 a3 σ18) (fun r23 σ22 => some (r23, σ22))) else (gBd (M_X9_finding (-100007) σ18) (fun r25 σ24 => some (r25, σ24))))) else (gBd (M_X9_finding (-100004) σ13) (fun r27 σ26 => some (r27, σ26)))))))))))
set_option maxHeartbeats 4000000 in
set_option maxRecDepth 100000 in
theorem c_X9_husband (l : Launch) (G : gPar) (a1 a2 a3 : Int32) (σ : gSt) {r : Int32} {σ' : gSt} (h : M_X9_husband a1 a2 a3 σ = some (r, σ')) : gC l G yX9_husband cX9_husband 5 (some .int) 2 45 [.ref (G.2.2.1 0), .int a1, .int a2, .int a3] σ r σ' := by
  refine gC_of (by decide) (Nat.le_of_ble_eq_true rfl) ?_
  intro p e s m below meth c hx hb hr ht hown hlk hml hE hP ls hl
  have hS : va_S (gA G) s.heap s.heap [] := va_S.rf
  have hl : lv_has ls 5 [(0, .ref (G.2.2.1 0)), (1, .int a1), (2, .int a2), (3, .int a3)] := hl
  unfold M_X9_husband at h
  refine lv_iload_n hx hb dX9_husband_0 rfl (lv_at hl 2 rfl) ?_
  refine lv_iconst (v := (-1)) hx hb dX9_husband_1 (by decide) ?_
  refine lv_icmp_ne (tgt := 9) hx hb dX9_husband_2 (by decide) (fun c1 => ?_) (fun c1 => ?_)
  · have h := g_iff c1 h
    refine lv_iconst (v := 0) hx hb dX9_husband_9 (by decide) ?_
    refine lv_istore (lv' := [(4, .int 0), (0, .ref (G.2.2.1 0)), (1, .int a1), (2, .int a2), (3, .int a3)]) hx hb dX9_husband_10 hl (by decide) rfl (fun ls hl => ?_)
    refine lv_aload_n hx hb dX9_husband_12 rfl (lv_at hl 1 rfl) ?_
    refine g_get hx hb ht hown hE hP (by decide) gE_0 uX9 rfl 0 (by decide) m_331 rfl rfl dX9_husband_13 ?_
    refine g_get hx hb ht hown hE hP (by decide) gE_1 uX0 rfl 1 (by decide) m_249 rfl rfl dX9_husband_16 ?_
    refine lv_iload_n hx hb dX9_husband_19 rfl (lv_at hl 2 rfl) ?_
    obtain ⟨r3, σ2, hcr3, h⟩ := g_bd h
    refine g_callV (As := [.int a1]) (n := 1) hx hb hml hown ht (c_X5_has l G _ _ hcr3) m_395 m_396 m_397 m_34 m_398 (by decide +kernel) (by decide) gE_11 rfl hE hP hS (fun _ h => h) (fun _ _ h => h) rfl hl.1 rfl (Nat.le_of_ble_eq_true rfl) dX9_husband_20 ⟨by decide, by decide⟩ ⟨Nat.zero_le _, Nat.zero_le _⟩ (fun H locs hP hS => ?_)
    refine lv_if_eq (tgt := 52) hx hb dX9_husband_23 (by decide) (fun c4 => ?_) (fun c4 => ?_)
    · have h := g_ift c4 h
      refine lv_aload_n hx hb dX9_husband_52 rfl (lv_at hl 1 rfl) ?_
      refine lv_ldc hx hb hown (ht _ m_357) dX9_husband_53 ?_
      obtain ⟨r6, σ5, hcr6, h⟩ := g_bd h
      refine g_callV (As := [.int (-100001)]) (n := 1) hx hb hml hown ht (c_X9_finding l G _ _ hcr6) m_358 m_360 m_0 m_31 m_361 (by decide +kernel) (by decide) gE_0 rfl hE hP hS (fun _ h => h) (fun _ _ h => h) rfl hl.1 rfl (Nat.le_of_ble_eq_true rfl) dX9_husband_55 ⟨by decide, by decide⟩ ⟨Nat.zero_le _, Nat.zero_le _⟩ (fun H locs hP hS => ?_)
      exact g_iret hx hb hr hlk hE hP hS h dX9_husband_58
    · have h := g_iff c4 h
      refine lv_iload hx hb dX9_husband_26 (lv_at hl 0 rfl) ?_
      refine lv_if_ne (tgt := 59) hx hb dX9_husband_28 (by decide) (fun c7 => absurd (by decide) c7) (fun _ => ?_)
      refine lv_aload_n hx hb dX9_husband_31 rfl (lv_at hl 1 rfl) ?_
      refine g_get hx hb ht hown hE hP (by decide) gE_0 uX9 rfl 0 (by decide) m_331 rfl rfl dX9_husband_32 ?_
      refine g_get hx hb ht hown hE hP (by decide) gE_1 uX0 rfl 1 (by decide) m_249 rfl rfl dX9_husband_35 ?_
      refine lv_iload_n hx hb dX9_husband_38 rfl (lv_at hl 3 rfl) ?_
      obtain ⟨r9, σ8, hcr9, h⟩ := g_bd h
      refine g_callV (As := [.int a2]) (n := 1) hx hb hml hown ht (c_X5_has l G _ _ hcr9) m_395 m_396 m_397 m_34 m_398 (by decide +kernel) (by decide) gE_11 rfl hE hP hS (fun _ h => h) (fun _ _ h => h) rfl hl.1 rfl (Nat.le_of_ble_eq_true rfl) dX9_husband_39 ⟨by decide, by decide⟩ ⟨Nat.zero_le _, Nat.zero_le _⟩ (fun H locs hP hS => ?_)
      refine lv_if_eq (tgt := 52) hx hb dX9_husband_42 (by decide) (fun c10 => ?_) (fun c10 => ?_)
      · have h := g_ift c10 h
        refine lv_aload_n hx hb dX9_husband_52 rfl (lv_at hl 1 rfl) ?_
        refine lv_ldc hx hb hown (ht _ m_357) dX9_husband_53 ?_
        obtain ⟨r12, σ11, hcr12, h⟩ := g_bd h
        refine g_callV (As := [.int (-100001)]) (n := 1) hx hb hml hown ht (c_X9_finding l G _ _ hcr12) m_358 m_360 m_0 m_31 m_361 (by decide +kernel) (by decide) gE_0 rfl hE hP hS (fun _ h => h) (fun _ _ h => h) rfl hl.1 rfl (Nat.le_of_ble_eq_true rfl) dX9_husband_55 ⟨by decide, by decide⟩ ⟨Nat.zero_le _, Nat.zero_le _⟩ (fun H locs hP hS => ?_)
        exact g_iret hx hb hr hlk hE hP hS h dX9_husband_58
      · have h := g_iff c10 h
        refine lv_iload_n hx hb dX9_husband_45 rfl (lv_at hl 4 rfl) ?_
        obtain ⟨r14, σ13, hcr14, h⟩ := g_bd h
        refine g_callS (As := [.int a3]) (n := 1) hx hb hml hown ht (c_X9_isDay l G _ _ hcr14) m_380 m_381 m_31 m_382 (by decide +kernel) hE hP hS (fun _ h => h) (fun _ _ h => h) rfl hl.1 rfl (Nat.le_of_ble_eq_true rfl) dX9_husband_46 ⟨by decide, by decide⟩ ⟨Nat.zero_le _, Nat.zero_le _⟩ (fun H locs hP hS => ?_)
        refine lv_if_ne (tgt := 59) hx hb dX9_husband_49 (by decide) (fun c15 => ?_) (fun c15 => ?_)
        · have h := g_iff c15 h
          refine lv_aload_n hx hb dX9_husband_59 rfl (lv_at hl 1 rfl) ?_
          refine g_get hx hb ht hown hE hP (by decide) gE_0 uX9 rfl 0 (by decide) m_331 rfl rfl dX9_husband_60 ?_
          refine g_get hx hb ht hown hE hP (by decide) gE_1 uX0 rfl 1 (by decide) m_249 rfl rfl dX9_husband_63 ?_
          refine g_get hx hb ht hown hE hP (by decide) gE_11 uX5 rfl 1 (by decide) m_91 rfl rfl dX9_husband_66 ?_
          refine lv_iload_n hx hb dX9_husband_69 rfl (lv_at hl 2 rfl) ?_
          obtain ⟨i16, h⟩ := g_ix h
          refine g_iald hx hb hE hP (by decide) rfl (by decide) i16 dX9_husband_70 ?_
          refine lv_iconst (v := 1) hx hb dX9_husband_71 (by decide) ?_
          refine lv_icmp_eq (tgt := 82) hx hb dX9_husband_72 (by decide) (fun c17 => ?_) (fun c17 => ?_)
          · have h := g_ift c17 h
            refine lv_aload_n hx hb dX9_husband_82 rfl (lv_at hl 1 rfl) ?_
            refine g_get hx hb ht hown hE hP (by decide) gE_0 uX9 rfl 0 (by decide) m_331 rfl rfl dX9_husband_83 ?_
            refine g_get hx hb ht hown hE hP (by decide) gE_1 uX0 rfl 1 (by decide) m_249 rfl rfl dX9_husband_86 ?_
            refine lv_iload_n hx hb dX9_husband_89 rfl (lv_at hl 3 rfl) ?_
            refine lv_iload_n hx hb dX9_husband_90 rfl (lv_at hl 2 rfl) ?_
            obtain ⟨r19, σ18, hcr19, h⟩ := g_bd h
            refine g_callV (As := [.int a2, .int a1]) (n := 2) hx hb hml hown ht (c_X5_comesTo l G _ _ _ hcr19) m_410 m_411 m_412 m_34 m_413 (by decide +kernel) (by decide) gE_11 rfl hE hP hS (fun _ h => h) (fun _ _ h => h) rfl hl.1 rfl (Nat.le_of_ble_eq_true rfl) dX9_husband_91 ⟨by decide, by decide⟩ ⟨Nat.zero_le _, Nat.zero_le _⟩ (fun H locs hP hS => ?_)
            refine lv_if_eq (tgt := 104) hx hb dX9_husband_94 (by decide) (fun c20 => ?_) (fun c20 => ?_)
            · have h := g_ift c20 h
              refine lv_aload_n hx hb dX9_husband_104 rfl (lv_at hl 1 rfl) ?_
              refine g_get hx hb ht hown hE hP (by decide) gE_0 uX9 rfl 0 (by decide) m_331 rfl rfl dX9_husband_105 ?_
              refine g_get hx hb ht hown hE hP (by decide) gE_1 uX0 rfl 1 (by decide) m_249 rfl rfl dX9_husband_108 ?_
              refine lv_iload_n hx hb dX9_husband_111 rfl (lv_at hl 2 rfl) ?_
              refine lv_iload_n hx hb dX9_husband_112 rfl (lv_at hl 3 rfl) ?_
              refine lv_iload hx hb dX9_husband_113 (lv_at hl 0 rfl) ?_
              refine lv_if_eq (tgt := 122) hx hb dX9_husband_115 (by decide) (fun _ => ?_) (fun c21 => absurd (by decide) c21)
              refine lv_iload_n hx hb dX9_husband_122 rfl (lv_at hl 4 rfl) ?_
              obtain ⟨r23, σ22, hcr23, h⟩ := g_bd h
              refine g_callV (As := [.int a1, .int a2, .int a3]) (n := 3) hx hb hml hown ht (c_X5_follow l G _ _ _ _ hcr23) m_416 m_417 m_418 m_34 m_419 (by decide +kernel) (by decide) gE_11 rfl hE hP hS (fun _ h => h) (fun _ _ h => h) rfl hl.1 rfl (Nat.le_of_ble_eq_true rfl) dX9_husband_123 ⟨by decide, by decide⟩ ⟨Nat.zero_le _, Nat.zero_le _⟩ (fun H locs hP hS => ?_)
              exact g_iret hx hb hr hlk hE hP hS h dX9_husband_126
            · have h := g_iff c20 h
              refine lv_aload_n hx hb dX9_husband_97 rfl (lv_at hl 1 rfl) ?_
              refine lv_ldc hx hb hown (ht _ m_415) dX9_husband_98 ?_
              obtain ⟨r25, σ24, hcr25, h⟩ := g_bd h
              refine g_callV (As := [.int (-100007)]) (n := 1) hx hb hml hown ht (c_X9_finding l G _ _ hcr25) m_358 m_360 m_0 m_31 m_361 (by decide +kernel) (by decide) gE_0 rfl hE hP hS (fun _ h => h) (fun _ _ h => h) rfl hl.1 rfl (Nat.le_of_ble_eq_true rfl) dX9_husband_100 ⟨by decide, by decide⟩ ⟨Nat.zero_le _, Nat.zero_le _⟩ (fun H locs hP hS => ?_)
              exact g_iret hx hb hr hlk hE hP hS h dX9_husband_103
          · have h := g_iff c17 h
            refine lv_aload_n hx hb dX9_husband_75 rfl (lv_at hl 1 rfl) ?_
            refine lv_ldc hx hb hown (ht _ m_405) dX9_husband_76 ?_
            obtain ⟨r27, σ26, hcr27, h⟩ := g_bd h
            refine g_callV (As := [.int (-100004)]) (n := 1) hx hb hml hown ht (c_X9_finding l G _ _ hcr27) m_358 m_360 m_0 m_31 m_361 (by decide +kernel) (by decide) gE_0 rfl hE hP hS (fun _ h => h) (fun _ _ h => h) rfl hl.1 rfl (Nat.le_of_ble_eq_true rfl) dX9_husband_78 ⟨by decide, by decide⟩ ⟨Nat.zero_le _, Nat.zero_le _⟩ (fun H locs hP hS => ?_)
            exact g_iret hx hb hr hlk hE hP hS h dX9_husband_81
        · have h := g_ift c15 h
          refine lv_aload_n hx hb dX9_husband_52 rfl (lv_at hl 1 rfl) ?_
          refine lv_ldc hx hb hown (ht _ m_357) dX9_husband_53 ?_
          obtain ⟨r29, σ28, hcr29, h⟩ := g_bd h
          refine g_callV (As := [.int (-100001)]) (n := 1) hx hb hml hown ht (c_X9_finding l G _ _ hcr29) m_358 m_360 m_0 m_31 m_361 (by decide +kernel) (by decide) gE_0 rfl hE hP hS (fun _ h => h) (fun _ _ h => h) rfl hl.1 rfl (Nat.le_of_ble_eq_true rfl) dX9_husband_55 ⟨by decide, by decide⟩ ⟨Nat.zero_le _, Nat.zero_le _⟩ (fun H locs hP hS => ?_)
          exact g_iret hx hb hr hlk hE hP hS h dX9_husband_58
  · have h := g_ift c1 h
    refine lv_iconst (v := 1) hx hb dX9_husband_5 (by decide) ?_
    refine lv_goto (tgt := 10) hx hb dX9_husband_6 (by decide) ?_
    refine lv_istore (lv' := [(4, .int 1), (0, .ref (G.2.2.1 0)), (1, .int a1), (2, .int a2), (3, .int a3)]) hx hb dX9_husband_10 hl (by decide) rfl (fun ls hl => ?_)
    refine lv_aload_n hx hb dX9_husband_12 rfl (lv_at hl 1 rfl) ?_
    refine g_get hx hb ht hown hE hP (by decide) gE_0 uX9 rfl 0 (by decide) m_331 rfl rfl dX9_husband_13 ?_
    refine g_get hx hb ht hown hE hP (by decide) gE_1 uX0 rfl 1 (by decide) m_249 rfl rfl dX9_husband_16 ?_
    refine lv_iload_n hx hb dX9_husband_19 rfl (lv_at hl 2 rfl) ?_
    obtain ⟨r31, σ30, hcr31, h⟩ := g_bd h
    refine g_callV (As := [.int a1]) (n := 1) hx hb hml hown ht (c_X5_has l G _ _ hcr31) m_395 m_396 m_397 m_34 m_398 (by decide +kernel) (by decide) gE_11 rfl hE hP hS (fun _ h => h) (fun _ _ h => h) rfl hl.1 rfl (Nat.le_of_ble_eq_true rfl) dX9_husband_20 ⟨by decide, by decide⟩ ⟨Nat.zero_le _, Nat.zero_le _⟩ (fun H locs hP hS => ?_)
    refine lv_if_eq (tgt := 52) hx hb dX9_husband_23 (by decide) (fun c32 => ?_) (fun c32 => ?_)
    · have h := g_ift c32 h
      refine lv_aload_n hx hb dX9_husband_52 rfl (lv_at hl 1 rfl) ?_
      refine lv_ldc hx hb hown (ht _ m_357) dX9_husband_53 ?_
      obtain ⟨r34, σ33, hcr34, h⟩ := g_bd h
      refine g_callV (As := [.int (-100001)]) (n := 1) hx hb hml hown ht (c_X9_finding l G _ _ hcr34) m_358 m_360 m_0 m_31 m_361 (by decide +kernel) (by decide) gE_0 rfl hE hP hS (fun _ h => h) (fun _ _ h => h) rfl hl.1 rfl (Nat.le_of_ble_eq_true rfl) dX9_husband_55 ⟨by decide, by decide⟩ ⟨Nat.zero_le _, Nat.zero_le _⟩ (fun H locs hP hS => ?_)
      exact g_iret hx hb hr hlk hE hP hS h dX9_husband_58
    · have h := g_iff c32 h
      refine lv_iload hx hb dX9_husband_26 (lv_at hl 0 rfl) ?_
      refine lv_if_ne (tgt := 59) hx hb dX9_husband_28 (by decide) (fun _ => ?_) (fun c35 => absurd c35 (by decide))
      refine lv_aload_n hx hb dX9_husband_59 rfl (lv_at hl 1 rfl) ?_
      refine g_get hx hb ht hown hE hP (by decide) gE_0 uX9 rfl 0 (by decide) m_331 rfl rfl dX9_husband_60 ?_
      refine g_get hx hb ht hown hE hP (by decide) gE_1 uX0 rfl 1 (by decide) m_249 rfl rfl dX9_husband_63 ?_
      refine g_get hx hb ht hown hE hP (by decide) gE_11 uX5 rfl 1 (by decide) m_91 rfl rfl dX9_husband_66 ?_
      refine lv_iload_n hx hb dX9_husband_69 rfl (lv_at hl 2 rfl) ?_
      obtain ⟨i36, h⟩ := g_ix h
      refine g_iald hx hb hE hP (by decide) rfl (by decide) i36 dX9_husband_70 ?_
      refine lv_iconst (v := 1) hx hb dX9_husband_71 (by decide) ?_
      refine lv_icmp_eq (tgt := 82) hx hb dX9_husband_72 (by decide) (fun c37 => ?_) (fun c37 => ?_)
      · have h := g_ift c37 h
        refine lv_aload_n hx hb dX9_husband_82 rfl (lv_at hl 1 rfl) ?_
        refine g_get hx hb ht hown hE hP (by decide) gE_0 uX9 rfl 0 (by decide) m_331 rfl rfl dX9_husband_83 ?_
        refine g_get hx hb ht hown hE hP (by decide) gE_1 uX0 rfl 1 (by decide) m_249 rfl rfl dX9_husband_86 ?_
        refine lv_iload_n hx hb dX9_husband_89 rfl (lv_at hl 3 rfl) ?_
        refine lv_iload_n hx hb dX9_husband_90 rfl (lv_at hl 2 rfl) ?_
        obtain ⟨r39, σ38, hcr39, h⟩ := g_bd h
        refine g_callV (As := [.int a2, .int a1]) (n := 2) hx hb hml hown ht (c_X5_comesTo l G _ _ _ hcr39) m_410 m_411 m_412 m_34 m_413 (by decide +kernel) (by decide) gE_11 rfl hE hP hS (fun _ h => h) (fun _ _ h => h) rfl hl.1 rfl (Nat.le_of_ble_eq_true rfl) dX9_husband_91 ⟨by decide, by decide⟩ ⟨Nat.zero_le _, Nat.zero_le _⟩ (fun H locs hP hS => ?_)
        refine lv_if_eq (tgt := 104) hx hb dX9_husband_94 (by decide) (fun c40 => ?_) (fun c40 => ?_)
        · have h := g_ift c40 h
          refine lv_aload_n hx hb dX9_husband_104 rfl (lv_at hl 1 rfl) ?_
          refine g_get hx hb ht hown hE hP (by decide) gE_0 uX9 rfl 0 (by decide) m_331 rfl rfl dX9_husband_105 ?_
          refine g_get hx hb ht hown hE hP (by decide) gE_1 uX0 rfl 1 (by decide) m_249 rfl rfl dX9_husband_108 ?_
          refine lv_iload_n hx hb dX9_husband_111 rfl (lv_at hl 2 rfl) ?_
          refine lv_iload_n hx hb dX9_husband_112 rfl (lv_at hl 3 rfl) ?_
          refine lv_iload hx hb dX9_husband_113 (lv_at hl 0 rfl) ?_
          refine lv_if_eq (tgt := 122) hx hb dX9_husband_115 (by decide) (fun c41 => absurd c41 (by decide)) (fun _ => ?_)
          refine lv_iconst (v := 0) hx hb dX9_husband_118 (by decide) ?_
          refine lv_goto (tgt := 123) hx hb dX9_husband_119 (by decide) ?_
          obtain ⟨r43, σ42, hcr43, h⟩ := g_bd h
          refine g_callV (As := [.int a1, .int a2, .int 0]) (n := 3) hx hb hml hown ht (c_X5_follow l G _ _ _ _ hcr43) m_416 m_417 m_418 m_34 m_419 (by decide +kernel) (by decide) gE_11 rfl hE hP hS (fun _ h => h) (fun _ _ h => h) rfl hl.1 rfl (Nat.le_of_ble_eq_true rfl) dX9_husband_123 ⟨by decide, by decide⟩ ⟨Nat.zero_le _, Nat.zero_le _⟩ (fun H locs hP hS => ?_)
          exact g_iret hx hb hr hlk hE hP hS h dX9_husband_126
        · have h := g_iff c40 h
          refine lv_aload_n hx hb dX9_husband_97 rfl (lv_at hl 1 rfl) ?_
          refine lv_ldc hx hb hown (ht _ m_415) dX9_husband_98 ?_
          obtain ⟨r45, σ44, hcr45, h⟩ := g_bd h
          refine g_callV (As := [.int (-100007)]) (n := 1) hx hb hml hown ht (c_X9_finding l G _ _ hcr45) m_358 m_360 m_0 m_31 m_361 (by decide +kernel) (by decide) gE_0 rfl hE hP hS (fun _ h => h) (fun _ _ h => h) rfl hl.1 rfl (Nat.le_of_ble_eq_true rfl) dX9_husband_100 ⟨by decide, by decide⟩ ⟨Nat.zero_le _, Nat.zero_le _⟩ (fun H locs hP hS => ?_)
          exact g_iret hx hb hr hlk hE hP hS h dX9_husband_103
      · have h := g_iff c37 h
        refine lv_aload_n hx hb dX9_husband_75 rfl (lv_at hl 1 rfl) ?_
        refine lv_ldc hx hb hown (ht _ m_405) dX9_husband_76 ?_
        obtain ⟨r47, σ46, hcr47, h⟩ := g_bd h
        refine g_callV (As := [.int (-100004)]) (n := 1) hx hb hml hown ht (c_X9_finding l G _ _ hcr47) m_358 m_360 m_0 m_31 m_361 (by decide +kernel) (by decide) gE_0 rfl hE hP hS (fun _ h => h) (fun _ _ h => h) rfl hl.1 rfl (Nat.le_of_ble_eq_true rfl) dX9_husband_78 ⟨by decide, by decide⟩ ⟨Nat.zero_le _, Nat.zero_le _⟩ (fun H locs hP hS => ?_)
        exact g_iret hx hb hr hlk hE hP hS h dX9_husband_81

def M_X9_father (a1 a2 : Int32) (σ : gSt) : gO :=
  gBd (M_X5_has a1 σ) (fun r2 σ1 => if r2 = 0 then (gBd (M_X9_finding (-100001) σ1) (fun r5 σ4 => some (r5, σ4))) else (if a2 = (-1) then (gIx 10 a1 (if (σ1 12 a1.toNatClampNeg) = 2 then (gBd (M_X5_comesTo a2 a1 σ1) (fun r10 σ9 => if r10 = 0 then (gBd (M_X5_follow a1 a2 0 σ9) (fun r13 σ12 => some (r13, σ12))) else (gBd (M_X9_finding (-100007) σ9) (fun r15 σ14 => some (r15, σ14))))) else (gBd (M_X9_finding (-100004) σ1) (fun r17 σ16 => some (r17, σ16))))) else (gBd (M_X5_has a2 σ1) (fun r19 σ18 => if r19 = 0 then (gBd (M_X9_finding (-100001) σ18) (fun r33 σ32 => some (r33, σ32))) else (gIx 10 a1 (if (σ18 12 a1.toNatClampNeg) = 2 then (gBd (M_X5_comesTo a2 a1 σ18) (fun r24 σ23 => if r24 = 0 then (gBd (M_X5_follow a1 a2 0 σ23) (fun r27 σ26 => some (r27, σ26))) else (gBd (M_X9_finding (-100007) σ23) (fun r29 σ28 => some (r29, σ28))))) else (gBd (M_X9_finding (-100004) σ18) (fun r31 σ30 => some (r31, σ30)))))))))
set_option maxHeartbeats 4000000 in
set_option maxRecDepth 100000 in
theorem c_X9_father (l : Launch) (G : gPar) (a1 a2 : Int32) (σ : gSt) {r : Int32} {σ' : gSt} (h : M_X9_father a1 a2 σ = some (r, σ')) : gC l G yX9_father cX9_father 3 (some .int) 2 45 [.ref (G.2.2.1 0), .int a1, .int a2] σ r σ' := by
  refine gC_of (by decide) (Nat.le_of_ble_eq_true rfl) ?_
  intro p e s m below meth c hx hb hr ht hown hlk hml hE hP ls hl
  have hS : va_S (gA G) s.heap s.heap [] := va_S.rf
  have hl : lv_has ls 3 [(0, .ref (G.2.2.1 0)), (1, .int a1), (2, .int a2)] := hl
  unfold M_X9_father at h
  refine lv_aload_n hx hb dX9_father_0 rfl (lv_at hl 0 rfl) ?_
  refine g_get hx hb ht hown hE hP (by decide) gE_0 uX9 rfl 0 (by decide) m_331 rfl rfl dX9_father_1 ?_
  refine g_get hx hb ht hown hE hP (by decide) gE_1 uX0 rfl 1 (by decide) m_249 rfl rfl dX9_father_4 ?_
  refine lv_iload_n hx hb dX9_father_7 rfl (lv_at hl 1 rfl) ?_
  obtain ⟨r2, σ1, hcr2, h⟩ := g_bd h
  refine g_callV (As := [.int a1]) (n := 1) hx hb hml hown ht (c_X5_has l G _ _ hcr2) m_395 m_396 m_397 m_34 m_398 (by decide +kernel) (by decide) gE_11 rfl hE hP hS (fun _ h => h) (fun _ _ h => h) rfl hl.1 rfl (Nat.le_of_ble_eq_true rfl) dX9_father_8 ⟨by decide, by decide⟩ ⟨Nat.zero_le _, Nat.zero_le _⟩ (fun H locs hP hS => ?_)
  refine lv_if_eq (tgt := 33) hx hb dX9_father_11 (by decide) (fun c3 => ?_) (fun c3 => ?_)
  · have h := g_ift c3 h
    refine lv_aload_n hx hb dX9_father_33 rfl (lv_at hl 0 rfl) ?_
    refine lv_ldc hx hb hown (ht _ m_357) dX9_father_34 ?_
    obtain ⟨r5, σ4, hcr5, h⟩ := g_bd h
    refine g_callV (As := [.int (-100001)]) (n := 1) hx hb hml hown ht (c_X9_finding l G _ _ hcr5) m_358 m_360 m_0 m_31 m_361 (by decide +kernel) (by decide) gE_0 rfl hE hP hS (fun _ h => h) (fun _ _ h => h) rfl hl.1 rfl (Nat.le_of_ble_eq_true rfl) dX9_father_36 ⟨by decide, by decide⟩ ⟨Nat.zero_le _, Nat.zero_le _⟩ (fun H locs hP hS => ?_)
    exact g_iret hx hb hr hlk hE hP hS h dX9_father_39
  · have h := g_iff c3 h
    refine lv_iload_n hx hb dX9_father_14 rfl (lv_at hl 2 rfl) ?_
    refine lv_iconst (v := (-1)) hx hb dX9_father_15 (by decide) ?_
    refine lv_icmp_eq (tgt := 40) hx hb dX9_father_16 (by decide) (fun c6 => ?_) (fun c6 => ?_)
    · have h := g_ift c6 h
      refine lv_aload_n hx hb dX9_father_40 rfl (lv_at hl 0 rfl) ?_
      refine g_get hx hb ht hown hE hP (by decide) gE_0 uX9 rfl 0 (by decide) m_331 rfl rfl dX9_father_41 ?_
      refine g_get hx hb ht hown hE hP (by decide) gE_1 uX0 rfl 1 (by decide) m_249 rfl rfl dX9_father_44 ?_
      refine g_get hx hb ht hown hE hP (by decide) gE_11 uX5 rfl 1 (by decide) m_91 rfl rfl dX9_father_47 ?_
      refine lv_iload_n hx hb dX9_father_50 rfl (lv_at hl 1 rfl) ?_
      obtain ⟨i7, h⟩ := g_ix h
      refine g_iald hx hb hE hP (by decide) rfl (by decide) i7 dX9_father_51 ?_
      refine lv_iconst (v := 2) hx hb dX9_father_52 (by decide) ?_
      refine lv_icmp_eq (tgt := 63) hx hb dX9_father_53 (by decide) (fun c8 => ?_) (fun c8 => ?_)
      · have h := g_ift c8 h
        refine lv_aload_n hx hb dX9_father_63 rfl (lv_at hl 0 rfl) ?_
        refine g_get hx hb ht hown hE hP (by decide) gE_0 uX9 rfl 0 (by decide) m_331 rfl rfl dX9_father_64 ?_
        refine g_get hx hb ht hown hE hP (by decide) gE_1 uX0 rfl 1 (by decide) m_249 rfl rfl dX9_father_67 ?_
        refine lv_iload_n hx hb dX9_father_70 rfl (lv_at hl 2 rfl) ?_
        refine lv_iload_n hx hb dX9_father_71 rfl (lv_at hl 1 rfl) ?_
        obtain ⟨r10, σ9, hcr10, h⟩ := g_bd h
        refine g_callV (As := [.int a2, .int a1]) (n := 2) hx hb hml hown ht (c_X5_comesTo l G _ _ _ hcr10) m_410 m_411 m_412 m_34 m_413 (by decide +kernel) (by decide) gE_11 rfl hE hP hS (fun _ h => h) (fun _ _ h => h) rfl hl.1 rfl (Nat.le_of_ble_eq_true rfl) dX9_father_72 ⟨by decide, by decide⟩ ⟨Nat.zero_le _, Nat.zero_le _⟩ (fun H locs hP hS => ?_)
        refine lv_if_eq (tgt := 85) hx hb dX9_father_75 (by decide) (fun c11 => ?_) (fun c11 => ?_)
        · have h := g_ift c11 h
          refine lv_aload_n hx hb dX9_father_85 rfl (lv_at hl 0 rfl) ?_
          refine g_get hx hb ht hown hE hP (by decide) gE_0 uX9 rfl 0 (by decide) m_331 rfl rfl dX9_father_86 ?_
          refine g_get hx hb ht hown hE hP (by decide) gE_1 uX0 rfl 1 (by decide) m_249 rfl rfl dX9_father_89 ?_
          refine lv_iload_n hx hb dX9_father_92 rfl (lv_at hl 1 rfl) ?_
          refine lv_iload_n hx hb dX9_father_93 rfl (lv_at hl 2 rfl) ?_
          refine lv_iconst (v := 0) hx hb dX9_father_94 (by decide) ?_
          obtain ⟨r13, σ12, hcr13, h⟩ := g_bd h
          refine g_callV (As := [.int a1, .int a2, .int 0]) (n := 3) hx hb hml hown ht (c_X5_follow l G _ _ _ _ hcr13) m_416 m_417 m_418 m_34 m_419 (by decide +kernel) (by decide) gE_11 rfl hE hP hS (fun _ h => h) (fun _ _ h => h) rfl hl.1 rfl (Nat.le_of_ble_eq_true rfl) dX9_father_95 ⟨by decide, by decide⟩ ⟨Nat.zero_le _, Nat.zero_le _⟩ (fun H locs hP hS => ?_)
          exact g_iret hx hb hr hlk hE hP hS h dX9_father_98
        · have h := g_iff c11 h
          refine lv_aload_n hx hb dX9_father_78 rfl (lv_at hl 0 rfl) ?_
          refine lv_ldc hx hb hown (ht _ m_415) dX9_father_79 ?_
          obtain ⟨r15, σ14, hcr15, h⟩ := g_bd h
          refine g_callV (As := [.int (-100007)]) (n := 1) hx hb hml hown ht (c_X9_finding l G _ _ hcr15) m_358 m_360 m_0 m_31 m_361 (by decide +kernel) (by decide) gE_0 rfl hE hP hS (fun _ h => h) (fun _ _ h => h) rfl hl.1 rfl (Nat.le_of_ble_eq_true rfl) dX9_father_81 ⟨by decide, by decide⟩ ⟨Nat.zero_le _, Nat.zero_le _⟩ (fun H locs hP hS => ?_)
          exact g_iret hx hb hr hlk hE hP hS h dX9_father_84
      · have h := g_iff c8 h
        refine lv_aload_n hx hb dX9_father_56 rfl (lv_at hl 0 rfl) ?_
        refine lv_ldc hx hb hown (ht _ m_405) dX9_father_57 ?_
        obtain ⟨r17, σ16, hcr17, h⟩ := g_bd h
        refine g_callV (As := [.int (-100004)]) (n := 1) hx hb hml hown ht (c_X9_finding l G _ _ hcr17) m_358 m_360 m_0 m_31 m_361 (by decide +kernel) (by decide) gE_0 rfl hE hP hS (fun _ h => h) (fun _ _ h => h) rfl hl.1 rfl (Nat.le_of_ble_eq_true rfl) dX9_father_59 ⟨by decide, by decide⟩ ⟨Nat.zero_le _, Nat.zero_le _⟩ (fun H locs hP hS => ?_)
        exact g_iret hx hb hr hlk hE hP hS h dX9_father_62
    · have h := g_iff c6 h
      refine lv_aload_n hx hb dX9_father_19 rfl (lv_at hl 0 rfl) ?_
      refine g_get hx hb ht hown hE hP (by decide) gE_0 uX9 rfl 0 (by decide) m_331 rfl rfl dX9_father_20 ?_
      refine g_get hx hb ht hown hE hP (by decide) gE_1 uX0 rfl 1 (by decide) m_249 rfl rfl dX9_father_23 ?_
      refine lv_iload_n hx hb dX9_father_26 rfl (lv_at hl 2 rfl) ?_
      obtain ⟨r19, σ18, hcr19, h⟩ := g_bd h
      refine g_callV (As := [.int a2]) (n := 1) hx hb hml hown ht (c_X5_has l G _ _ hcr19) m_395 m_396 m_397 m_34 m_398 (by decide +kernel) (by decide) gE_11 rfl hE hP hS (fun _ h => h) (fun _ _ h => h) rfl hl.1 rfl (Nat.le_of_ble_eq_true rfl) dX9_father_27 ⟨by decide, by decide⟩ ⟨Nat.zero_le _, Nat.zero_le _⟩ (fun H locs hP hS => ?_)
      refine lv_if_ne (tgt := 40) hx hb dX9_father_30 (by decide) (fun c20 => ?_) (fun c20 => ?_)
      · have h := g_iff c20 h
        refine lv_aload_n hx hb dX9_father_40 rfl (lv_at hl 0 rfl) ?_
        refine g_get hx hb ht hown hE hP (by decide) gE_0 uX9 rfl 0 (by decide) m_331 rfl rfl dX9_father_41 ?_
        refine g_get hx hb ht hown hE hP (by decide) gE_1 uX0 rfl 1 (by decide) m_249 rfl rfl dX9_father_44 ?_
        refine g_get hx hb ht hown hE hP (by decide) gE_11 uX5 rfl 1 (by decide) m_91 rfl rfl dX9_father_47 ?_
        refine lv_iload_n hx hb dX9_father_50 rfl (lv_at hl 1 rfl) ?_
        obtain ⟨i21, h⟩ := g_ix h
        refine g_iald hx hb hE hP (by decide) rfl (by decide) i21 dX9_father_51 ?_
        refine lv_iconst (v := 2) hx hb dX9_father_52 (by decide) ?_
        refine lv_icmp_eq (tgt := 63) hx hb dX9_father_53 (by decide) (fun c22 => ?_) (fun c22 => ?_)
        · have h := g_ift c22 h
          refine lv_aload_n hx hb dX9_father_63 rfl (lv_at hl 0 rfl) ?_
          refine g_get hx hb ht hown hE hP (by decide) gE_0 uX9 rfl 0 (by decide) m_331 rfl rfl dX9_father_64 ?_
          refine g_get hx hb ht hown hE hP (by decide) gE_1 uX0 rfl 1 (by decide) m_249 rfl rfl dX9_father_67 ?_
          refine lv_iload_n hx hb dX9_father_70 rfl (lv_at hl 2 rfl) ?_
          refine lv_iload_n hx hb dX9_father_71 rfl (lv_at hl 1 rfl) ?_
          obtain ⟨r24, σ23, hcr24, h⟩ := g_bd h
          refine g_callV (As := [.int a2, .int a1]) (n := 2) hx hb hml hown ht (c_X5_comesTo l G _ _ _ hcr24) m_410 m_411 m_412 m_34 m_413 (by decide +kernel) (by decide) gE_11 rfl hE hP hS (fun _ h => h) (fun _ _ h => h) rfl hl.1 rfl (Nat.le_of_ble_eq_true rfl) dX9_father_72 ⟨by decide, by decide⟩ ⟨Nat.zero_le _, Nat.zero_le _⟩ (fun H locs hP hS => ?_)
          refine lv_if_eq (tgt := 85) hx hb dX9_father_75 (by decide) (fun c25 => ?_) (fun c25 => ?_)
          · have h := g_ift c25 h
            refine lv_aload_n hx hb dX9_father_85 rfl (lv_at hl 0 rfl) ?_
            refine g_get hx hb ht hown hE hP (by decide) gE_0 uX9 rfl 0 (by decide) m_331 rfl rfl dX9_father_86 ?_
            refine g_get hx hb ht hown hE hP (by decide) gE_1 uX0 rfl 1 (by decide) m_249 rfl rfl dX9_father_89 ?_
            refine lv_iload_n hx hb dX9_father_92 rfl (lv_at hl 1 rfl) ?_
            refine lv_iload_n hx hb dX9_father_93 rfl (lv_at hl 2 rfl) ?_
            refine lv_iconst (v := 0) hx hb dX9_father_94 (by decide) ?_
            obtain ⟨r27, σ26, hcr27, h⟩ := g_bd h
            refine g_callV (As := [.int a1, .int a2, .int 0]) (n := 3) hx hb hml hown ht (c_X5_follow l G _ _ _ _ hcr27) m_416 m_417 m_418 m_34 m_419 (by decide +kernel) (by decide) gE_11 rfl hE hP hS (fun _ h => h) (fun _ _ h => h) rfl hl.1 rfl (Nat.le_of_ble_eq_true rfl) dX9_father_95 ⟨by decide, by decide⟩ ⟨Nat.zero_le _, Nat.zero_le _⟩ (fun H locs hP hS => ?_)
            exact g_iret hx hb hr hlk hE hP hS h dX9_father_98
          · have h := g_iff c25 h
            refine lv_aload_n hx hb dX9_father_78 rfl (lv_at hl 0 rfl) ?_
            refine lv_ldc hx hb hown (ht _ m_415) dX9_father_79 ?_
            obtain ⟨r29, σ28, hcr29, h⟩ := g_bd h
            refine g_callV (As := [.int (-100007)]) (n := 1) hx hb hml hown ht (c_X9_finding l G _ _ hcr29) m_358 m_360 m_0 m_31 m_361 (by decide +kernel) (by decide) gE_0 rfl hE hP hS (fun _ h => h) (fun _ _ h => h) rfl hl.1 rfl (Nat.le_of_ble_eq_true rfl) dX9_father_81 ⟨by decide, by decide⟩ ⟨Nat.zero_le _, Nat.zero_le _⟩ (fun H locs hP hS => ?_)
            exact g_iret hx hb hr hlk hE hP hS h dX9_father_84
        · have h := g_iff c22 h
          refine lv_aload_n hx hb dX9_father_56 rfl (lv_at hl 0 rfl) ?_
          refine lv_ldc hx hb hown (ht _ m_405) dX9_father_57 ?_
          obtain ⟨r31, σ30, hcr31, h⟩ := g_bd h
          refine g_callV (As := [.int (-100004)]) (n := 1) hx hb hml hown ht (c_X9_finding l G _ _ hcr31) m_358 m_360 m_0 m_31 m_361 (by decide +kernel) (by decide) gE_0 rfl hE hP hS (fun _ h => h) (fun _ _ h => h) rfl hl.1 rfl (Nat.le_of_ble_eq_true rfl) dX9_father_59 ⟨by decide, by decide⟩ ⟨Nat.zero_le _, Nat.zero_le _⟩ (fun H locs hP hS => ?_)
          exact g_iret hx hb hr hlk hE hP hS h dX9_father_62
      · have h := g_ift c20 h
        refine lv_aload_n hx hb dX9_father_33 rfl (lv_at hl 0 rfl) ?_
        refine lv_ldc hx hb hown (ht _ m_357) dX9_father_34 ?_
        obtain ⟨r33, σ32, hcr33, h⟩ := g_bd h
        refine g_callV (As := [.int (-100001)]) (n := 1) hx hb hml hown ht (c_X9_finding l G _ _ hcr33) m_358 m_360 m_0 m_31 m_361 (by decide +kernel) (by decide) gE_0 rfl hE hP hS (fun _ h => h) (fun _ _ h => h) rfl hl.1 rfl (Nat.le_of_ble_eq_true rfl) dX9_father_36 ⟨by decide, by decide⟩ ⟨Nat.zero_le _, Nat.zero_le _⟩ (fun H locs hP hS => ?_)
        exact g_iret hx hb hr hlk hE hP hS h dX9_father_39

def M_X9_fact (a1 a2 a3 a4 a5 a6 a7 : Int32) (σ : gSt) : gO :=
  gBd (M_X9_within a1 0 1 σ) (fun r2 σ1 => if r2 = 0 then (gBd (M_X9_finding (-100001) σ1) (fun r5 σ4 => some (r5, σ4))) else (gBd (M_X5_has a2 σ1) (fun r7 σ6 => if r7 = 0 then (gBd (M_X9_finding (-100001) σ6) (fun r10 σ9 => some (r10, σ9))) else (gBd (M_X4_has a3 σ6) (fun r12 σ11 => if r12 = 0 then (gBd (M_X9_finding (-100001) σ11) (fun r15 σ14 => some (r15, σ14))) else (if a1 = 1 then (gBd (M_X9_within a4 0 99 σ11) (fun r41 σ40 => if r41 = 0 then (gBd (M_X9_finding (-100001) σ40) (fun r44 σ43 => some (r44, σ43))) else (gBd (M_X9_isDay a5 σ40) (fun r46 σ45 => if r46 = 0 then (gBd (M_X9_finding (-100001) σ45) (fun r49 σ48 => some (r49, σ48))) else (gBd (M_X9_isDay a6 σ45) (fun r51 σ50 => if r51 = 0 then (gBd (M_X9_finding (-100001) σ50) (fun r54 σ53 => some (r54, σ53))) else (gBd (M_X9_isDay a7 σ50) (fun r56 σ55 => if r56 = 0 then (gBd (M_X9_finding (-100001) σ55) (fun r67 σ66 => some (r67, σ66))) else (if a5 ≤ a6 then (if (σ55 17 0) < 24 then (gBd (M_X1_add a1 a2 a3 a4 a5 a6 a7 σ55) (fun r61 σ60 => some (r61, σ60))) else (gBd (M_X9_finding (-100005) σ55) (fun r63 σ62 => some (r63, σ62)))) else (gBd (M_X9_finding (-100003) σ55) (fun r65 σ64 => some (r65, σ64)))))))))))) else (gBd (M_X9_isDay a5 σ11) (fun r18 σ17 => if r18 = 0 then (gBd (M_X9_finding (-100001) σ17) (fun r21 σ20 => some (r21, σ20))) else (gBd (M_X9_isDay a6 σ17) (fun r23 σ22 => if r23 = 0 then (gBd (M_X9_finding (-100001) σ22) (fun r26 σ25 => some (r26, σ25))) else (gBd (M_X9_isDay a7 σ22) (fun r28 σ27 => if r28 = 0 then (gBd (M_X9_finding (-100001) σ27) (fun r39 σ38 => some (r39, σ38))) else (if a5 ≤ a6 then (if (σ27 17 0) < 24 then (gBd (M_X1_add a1 a2 a3 a4 a5 a6 a7 σ27) (fun r33 σ32 => some (r33, σ32))) else (gBd (M_X9_finding (-100005) σ27) (fun r35 σ34 => some (r35, σ34)))) else (gBd (M_X9_finding (-100003) σ27) (fun r37 σ36 => some (r37, σ36))))))))))))))))
set_option maxHeartbeats 4000000 in
set_option maxRecDepth 100000 in
theorem c_X9_fact (l : Launch) (G : gPar) (a1 a2 a3 a4 a5 a6 a7 : Int32) (σ : gSt) {r : Int32} {σ' : gSt} (h : M_X9_fact a1 a2 a3 a4 a5 a6 a7 σ = some (r, σ')) : gC l G yX9_fact cX9_fact 8 (some .int) 2 42 [.ref (G.2.2.1 0), .int a1, .int a2, .int a3, .int a4, .int a5, .int a6, .int a7] σ r σ' := by
  refine gC_of (by decide) (Nat.le_of_ble_eq_true rfl) ?_
  intro p e s m below meth c hx hb hr ht hown hlk hml hE hP ls hl
  have hS : va_S (gA G) s.heap s.heap [] := va_S.rf
  have hl : lv_has ls 8 [(0, .ref (G.2.2.1 0)), (1, .int a1), (2, .int a2), (3, .int a3), (4, .int a4), (5, .int a5), (6, .int a6), (7, .int a7)] := hl
  unfold M_X9_fact at h
  refine lv_iload_n hx hb dX9_fact_0 rfl (lv_at hl 1 rfl) ?_
  refine lv_iconst (v := 0) hx hb dX9_fact_1 (by decide) ?_
  refine lv_iconst (v := 1) hx hb dX9_fact_2 (by decide) ?_
  obtain ⟨r2, σ1, hcr2, h⟩ := g_bd h
  refine g_callS (As := [.int a1, .int 0, .int 1]) (n := 3) hx hb hml hown ht (c_X9_within l G _ _ _ _ hcr2) m_354 m_355 m_31 m_356 (by decide +kernel) hE hP hS (fun _ h => h) (fun _ _ h => h) rfl hl.1 rfl (Nat.le_of_ble_eq_true rfl) dX9_fact_3 ⟨by decide, by decide⟩ ⟨Nat.zero_le _, Nat.zero_le _⟩ (fun H locs hP hS => ?_)
  refine lv_if_eq (tgt := 77) hx hb dX9_fact_6 (by decide) (fun c3 => ?_) (fun c3 => ?_)
  · have h := g_ift c3 h
    refine lv_aload_n hx hb dX9_fact_77 rfl (lv_at hl 0 rfl) ?_
    refine lv_ldc hx hb hown (ht _ m_357) dX9_fact_78 ?_
    obtain ⟨r5, σ4, hcr5, h⟩ := g_bd h
    refine g_callV (As := [.int (-100001)]) (n := 1) hx hb hml hown ht (c_X9_finding l G _ _ hcr5) m_358 m_360 m_0 m_31 m_361 (by decide +kernel) (by decide) gE_0 rfl hE hP hS (fun _ h => h) (fun _ _ h => h) rfl hl.1 rfl (Nat.le_of_ble_eq_true rfl) dX9_fact_80 ⟨by decide, by decide⟩ ⟨Nat.zero_le _, Nat.zero_le _⟩ (fun H locs hP hS => ?_)
    exact g_iret hx hb hr hlk hE hP hS h dX9_fact_83
  · have h := g_iff c3 h
    refine lv_aload_n hx hb dX9_fact_9 rfl (lv_at hl 0 rfl) ?_
    refine g_get hx hb ht hown hE hP (by decide) gE_0 uX9 rfl 0 (by decide) m_331 rfl rfl dX9_fact_10 ?_
    refine g_get hx hb ht hown hE hP (by decide) gE_1 uX0 rfl 1 (by decide) m_249 rfl rfl dX9_fact_13 ?_
    refine lv_iload_n hx hb dX9_fact_16 rfl (lv_at hl 2 rfl) ?_
    obtain ⟨r7, σ6, hcr7, h⟩ := g_bd h
    refine g_callV (As := [.int a2]) (n := 1) hx hb hml hown ht (c_X5_has l G _ _ hcr7) m_395 m_396 m_397 m_34 m_398 (by decide +kernel) (by decide) gE_11 rfl hE hP hS (fun _ h => h) (fun _ _ h => h) rfl hl.1 rfl (Nat.le_of_ble_eq_true rfl) dX9_fact_17 ⟨by decide, by decide⟩ ⟨Nat.zero_le _, Nat.zero_le _⟩ (fun H locs hP hS => ?_)
    refine lv_if_eq (tgt := 77) hx hb dX9_fact_20 (by decide) (fun c8 => ?_) (fun c8 => ?_)
    · have h := g_ift c8 h
      refine lv_aload_n hx hb dX9_fact_77 rfl (lv_at hl 0 rfl) ?_
      refine lv_ldc hx hb hown (ht _ m_357) dX9_fact_78 ?_
      obtain ⟨r10, σ9, hcr10, h⟩ := g_bd h
      refine g_callV (As := [.int (-100001)]) (n := 1) hx hb hml hown ht (c_X9_finding l G _ _ hcr10) m_358 m_360 m_0 m_31 m_361 (by decide +kernel) (by decide) gE_0 rfl hE hP hS (fun _ h => h) (fun _ _ h => h) rfl hl.1 rfl (Nat.le_of_ble_eq_true rfl) dX9_fact_80 ⟨by decide, by decide⟩ ⟨Nat.zero_le _, Nat.zero_le _⟩ (fun H locs hP hS => ?_)
      exact g_iret hx hb hr hlk hE hP hS h dX9_fact_83
    · have h := g_iff c8 h
      refine lv_aload_n hx hb dX9_fact_23 rfl (lv_at hl 0 rfl) ?_
      refine g_get hx hb ht hown hE hP (by decide) gE_0 uX9 rfl 0 (by decide) m_331 rfl rfl dX9_fact_24 ?_
      refine g_get hx hb ht hown hE hP (by decide) gE_1 uX0 rfl 0 (by decide) m_247 rfl rfl dX9_fact_27 ?_
      refine lv_iload_n hx hb dX9_fact_30 rfl (lv_at hl 3 rfl) ?_
      obtain ⟨r12, σ11, hcr12, h⟩ := g_bd h
      refine g_callV (As := [.int a3]) (n := 1) hx hb hml hown ht (c_X4_has l G _ _ hcr12) m_371 m_372 m_373 m_33 m_374 (by decide +kernel) (by decide) gE_2 rfl hE hP hS (fun _ h => h) (fun _ _ h => h) rfl hl.1 rfl (Nat.le_of_ble_eq_true rfl) dX9_fact_31 ⟨by decide, by decide⟩ ⟨Nat.zero_le _, Nat.zero_le _⟩ (fun H locs hP hS => ?_)
      refine lv_if_eq (tgt := 77) hx hb dX9_fact_34 (by decide) (fun c13 => ?_) (fun c13 => ?_)
      · have h := g_ift c13 h
        refine lv_aload_n hx hb dX9_fact_77 rfl (lv_at hl 0 rfl) ?_
        refine lv_ldc hx hb hown (ht _ m_357) dX9_fact_78 ?_
        obtain ⟨r15, σ14, hcr15, h⟩ := g_bd h
        refine g_callV (As := [.int (-100001)]) (n := 1) hx hb hml hown ht (c_X9_finding l G _ _ hcr15) m_358 m_360 m_0 m_31 m_361 (by decide +kernel) (by decide) gE_0 rfl hE hP hS (fun _ h => h) (fun _ _ h => h) rfl hl.1 rfl (Nat.le_of_ble_eq_true rfl) dX9_fact_80 ⟨by decide, by decide⟩ ⟨Nat.zero_le _, Nat.zero_le _⟩ (fun H locs hP hS => ?_)
        exact g_iret hx hb hr hlk hE hP hS h dX9_fact_83
      · have h := g_iff c13 h
        refine lv_iload_n hx hb dX9_fact_37 rfl (lv_at hl 1 rfl) ?_
        refine lv_iconst (v := 1) hx hb dX9_fact_38 (by decide) ?_
        refine lv_icmp_ne (tgt := 53) hx hb dX9_fact_39 (by decide) (fun c16 => ?_) (fun c16 => ?_)
        · have h := g_iff c16 h
          refine lv_iload hx hb dX9_fact_53 (lv_at hl 5 rfl) ?_
          obtain ⟨r18, σ17, hcr18, h⟩ := g_bd h
          refine g_callS (As := [.int a5]) (n := 1) hx hb hml hown ht (c_X9_isDay l G _ _ hcr18) m_380 m_381 m_31 m_382 (by decide +kernel) hE hP hS (fun _ h => h) (fun _ _ h => h) rfl hl.1 rfl (Nat.le_of_ble_eq_true rfl) dX9_fact_55 ⟨by decide, by decide⟩ ⟨Nat.zero_le _, Nat.zero_le _⟩ (fun H locs hP hS => ?_)
          refine lv_if_eq (tgt := 77) hx hb dX9_fact_58 (by decide) (fun c19 => ?_) (fun c19 => ?_)
          · have h := g_ift c19 h
            refine lv_aload_n hx hb dX9_fact_77 rfl (lv_at hl 0 rfl) ?_
            refine lv_ldc hx hb hown (ht _ m_357) dX9_fact_78 ?_
            obtain ⟨r21, σ20, hcr21, h⟩ := g_bd h
            refine g_callV (As := [.int (-100001)]) (n := 1) hx hb hml hown ht (c_X9_finding l G _ _ hcr21) m_358 m_360 m_0 m_31 m_361 (by decide +kernel) (by decide) gE_0 rfl hE hP hS (fun _ h => h) (fun _ _ h => h) rfl hl.1 rfl (Nat.le_of_ble_eq_true rfl) dX9_fact_80 ⟨by decide, by decide⟩ ⟨Nat.zero_le _, Nat.zero_le _⟩ (fun H locs hP hS => ?_)
            exact g_iret hx hb hr hlk hE hP hS h dX9_fact_83
          · have h := g_iff c19 h
            refine lv_iload hx hb dX9_fact_61 (lv_at hl 6 rfl) ?_
            obtain ⟨r23, σ22, hcr23, h⟩ := g_bd h
            refine g_callS (As := [.int a6]) (n := 1) hx hb hml hown ht (c_X9_isDay l G _ _ hcr23) m_380 m_381 m_31 m_382 (by decide +kernel) hE hP hS (fun _ h => h) (fun _ _ h => h) rfl hl.1 rfl (Nat.le_of_ble_eq_true rfl) dX9_fact_63 ⟨by decide, by decide⟩ ⟨Nat.zero_le _, Nat.zero_le _⟩ (fun H locs hP hS => ?_)
            refine lv_if_eq (tgt := 77) hx hb dX9_fact_66 (by decide) (fun c24 => ?_) (fun c24 => ?_)
            · have h := g_ift c24 h
              refine lv_aload_n hx hb dX9_fact_77 rfl (lv_at hl 0 rfl) ?_
              refine lv_ldc hx hb hown (ht _ m_357) dX9_fact_78 ?_
              obtain ⟨r26, σ25, hcr26, h⟩ := g_bd h
              refine g_callV (As := [.int (-100001)]) (n := 1) hx hb hml hown ht (c_X9_finding l G _ _ hcr26) m_358 m_360 m_0 m_31 m_361 (by decide +kernel) (by decide) gE_0 rfl hE hP hS (fun _ h => h) (fun _ _ h => h) rfl hl.1 rfl (Nat.le_of_ble_eq_true rfl) dX9_fact_80 ⟨by decide, by decide⟩ ⟨Nat.zero_le _, Nat.zero_le _⟩ (fun H locs hP hS => ?_)
              exact g_iret hx hb hr hlk hE hP hS h dX9_fact_83
            · have h := g_iff c24 h
              refine lv_iload hx hb dX9_fact_69 (lv_at hl 7 rfl) ?_
              obtain ⟨r28, σ27, hcr28, h⟩ := g_bd h
              refine g_callS (As := [.int a7]) (n := 1) hx hb hml hown ht (c_X9_isDay l G _ _ hcr28) m_380 m_381 m_31 m_382 (by decide +kernel) hE hP hS (fun _ h => h) (fun _ _ h => h) rfl hl.1 rfl (Nat.le_of_ble_eq_true rfl) dX9_fact_71 ⟨by decide, by decide⟩ ⟨Nat.zero_le _, Nat.zero_le _⟩ (fun H locs hP hS => ?_)
              refine lv_if_ne (tgt := 84) hx hb dX9_fact_74 (by decide) (fun c29 => ?_) (fun c29 => ?_)
              · have h := g_iff c29 h
                refine lv_iload hx hb dX9_fact_84 (lv_at hl 5 rfl) ?_
                refine lv_iload hx hb dX9_fact_86 (lv_at hl 6 rfl) ?_
                refine lv_icmp_le (tgt := 98) hx hb dX9_fact_88 (by decide) (fun c30 => ?_) (fun c30 => ?_)
                · have h := g_ift c30 h
                  refine lv_aload_n hx hb dX9_fact_98 rfl (lv_at hl 0 rfl) ?_
                  refine g_get hx hb ht hown hE hP (by decide) gE_0 uX9 rfl 0 (by decide) m_331 rfl rfl dX9_fact_99 ?_
                  refine g_get hx hb ht hown hE hP (by decide) gE_1 uX0 rfl 2 (by decide) m_253 rfl rfl dX9_fact_102 ?_
                  refine g_get hx hb ht hown hE hP (by decide) gE_17 uX1 rfl 0 (by decide) m_123 rfl rfl dX9_fact_105 ?_
                  refine lv_bipush (v := 24) hx hb dX9_fact_108 (by decide) ?_
                  refine lv_icmp_lt (tgt := 120) hx hb dX9_fact_110 (by decide) (fun c31 => ?_) (fun c31 => ?_)
                  · have h := g_ift c31 h
                    refine lv_aload_n hx hb dX9_fact_120 rfl (lv_at hl 0 rfl) ?_
                    refine g_get hx hb ht hown hE hP (by decide) gE_0 uX9 rfl 0 (by decide) m_331 rfl rfl dX9_fact_121 ?_
                    refine g_get hx hb ht hown hE hP (by decide) gE_1 uX0 rfl 2 (by decide) m_253 rfl rfl dX9_fact_124 ?_
                    refine lv_iload_n hx hb dX9_fact_127 rfl (lv_at hl 1 rfl) ?_
                    refine lv_iload_n hx hb dX9_fact_128 rfl (lv_at hl 2 rfl) ?_
                    refine lv_iload_n hx hb dX9_fact_129 rfl (lv_at hl 3 rfl) ?_
                    refine lv_iload hx hb dX9_fact_130 (lv_at hl 4 rfl) ?_
                    refine lv_iload hx hb dX9_fact_132 (lv_at hl 5 rfl) ?_
                    refine lv_iload hx hb dX9_fact_134 (lv_at hl 6 rfl) ?_
                    refine lv_iload hx hb dX9_fact_136 (lv_at hl 7 rfl) ?_
                    obtain ⟨r33, σ32, hcr33, h⟩ := g_bd h
                    refine g_callV (As := [.int a1, .int a2, .int a3, .int a4, .int a5, .int a6, .int a7]) (n := 7) hx hb hml hown ht (c_X1_add l G _ _ _ _ _ _ _ _ hcr33) m_428 m_429 m_430 m_35 m_431 (by decide +kernel) (by decide) gE_17 rfl hE hP hS (fun _ h => h) (fun _ _ h => h) rfl hl.1 rfl (Nat.le_of_ble_eq_true rfl) dX9_fact_138 ⟨by decide, by decide⟩ ⟨Nat.zero_le _, Nat.zero_le _⟩ (fun H locs hP hS => ?_)
                    exact g_iret hx hb hr hlk hE hP hS h dX9_fact_141
                  · have h := g_iff c31 h
                    refine lv_aload_n hx hb dX9_fact_113 rfl (lv_at hl 0 rfl) ?_
                    refine lv_ldc hx hb hown (ht _ m_362) dX9_fact_114 ?_
                    obtain ⟨r35, σ34, hcr35, h⟩ := g_bd h
                    refine g_callV (As := [.int (-100005)]) (n := 1) hx hb hml hown ht (c_X9_finding l G _ _ hcr35) m_358 m_360 m_0 m_31 m_361 (by decide +kernel) (by decide) gE_0 rfl hE hP hS (fun _ h => h) (fun _ _ h => h) rfl hl.1 rfl (Nat.le_of_ble_eq_true rfl) dX9_fact_116 ⟨by decide, by decide⟩ ⟨Nat.zero_le _, Nat.zero_le _⟩ (fun H locs hP hS => ?_)
                    exact g_iret hx hb hr hlk hE hP hS h dX9_fact_119
                · have h := g_iff c30 h
                  refine lv_aload_n hx hb dX9_fact_91 rfl (lv_at hl 0 rfl) ?_
                  refine lv_ldc hx hb hown (ht _ m_375) dX9_fact_92 ?_
                  obtain ⟨r37, σ36, hcr37, h⟩ := g_bd h
                  refine g_callV (As := [.int (-100003)]) (n := 1) hx hb hml hown ht (c_X9_finding l G _ _ hcr37) m_358 m_360 m_0 m_31 m_361 (by decide +kernel) (by decide) gE_0 rfl hE hP hS (fun _ h => h) (fun _ _ h => h) rfl hl.1 rfl (Nat.le_of_ble_eq_true rfl) dX9_fact_94 ⟨by decide, by decide⟩ ⟨Nat.zero_le _, Nat.zero_le _⟩ (fun H locs hP hS => ?_)
                  exact g_iret hx hb hr hlk hE hP hS h dX9_fact_97
              · have h := g_ift c29 h
                refine lv_aload_n hx hb dX9_fact_77 rfl (lv_at hl 0 rfl) ?_
                refine lv_ldc hx hb hown (ht _ m_357) dX9_fact_78 ?_
                obtain ⟨r39, σ38, hcr39, h⟩ := g_bd h
                refine g_callV (As := [.int (-100001)]) (n := 1) hx hb hml hown ht (c_X9_finding l G _ _ hcr39) m_358 m_360 m_0 m_31 m_361 (by decide +kernel) (by decide) gE_0 rfl hE hP hS (fun _ h => h) (fun _ _ h => h) rfl hl.1 rfl (Nat.le_of_ble_eq_true rfl) dX9_fact_80 ⟨by decide, by decide⟩ ⟨Nat.zero_le _, Nat.zero_le _⟩ (fun H locs hP hS => ?_)
                exact g_iret hx hb hr hlk hE hP hS h dX9_fact_83
        · have h := g_ift c16 h
          refine lv_iload hx hb dX9_fact_42 (lv_at hl 4 rfl) ?_
          refine lv_iconst (v := 0) hx hb dX9_fact_44 (by decide) ?_
          refine lv_bipush (v := 99) hx hb dX9_fact_45 (by decide) ?_
          obtain ⟨r41, σ40, hcr41, h⟩ := g_bd h
          refine g_callS (As := [.int a4, .int 0, .int 99]) (n := 3) hx hb hml hown ht (c_X9_within l G _ _ _ _ hcr41) m_354 m_355 m_31 m_356 (by decide +kernel) hE hP hS (fun _ h => h) (fun _ _ h => h) rfl hl.1 rfl (Nat.le_of_ble_eq_true rfl) dX9_fact_47 ⟨by decide, by decide⟩ ⟨Nat.zero_le _, Nat.zero_le _⟩ (fun H locs hP hS => ?_)
          refine lv_if_eq (tgt := 77) hx hb dX9_fact_50 (by decide) (fun c42 => ?_) (fun c42 => ?_)
          · have h := g_ift c42 h
            refine lv_aload_n hx hb dX9_fact_77 rfl (lv_at hl 0 rfl) ?_
            refine lv_ldc hx hb hown (ht _ m_357) dX9_fact_78 ?_
            obtain ⟨r44, σ43, hcr44, h⟩ := g_bd h
            refine g_callV (As := [.int (-100001)]) (n := 1) hx hb hml hown ht (c_X9_finding l G _ _ hcr44) m_358 m_360 m_0 m_31 m_361 (by decide +kernel) (by decide) gE_0 rfl hE hP hS (fun _ h => h) (fun _ _ h => h) rfl hl.1 rfl (Nat.le_of_ble_eq_true rfl) dX9_fact_80 ⟨by decide, by decide⟩ ⟨Nat.zero_le _, Nat.zero_le _⟩ (fun H locs hP hS => ?_)
            exact g_iret hx hb hr hlk hE hP hS h dX9_fact_83
          · have h := g_iff c42 h
            refine lv_iload hx hb dX9_fact_53 (lv_at hl 5 rfl) ?_
            obtain ⟨r46, σ45, hcr46, h⟩ := g_bd h
            refine g_callS (As := [.int a5]) (n := 1) hx hb hml hown ht (c_X9_isDay l G _ _ hcr46) m_380 m_381 m_31 m_382 (by decide +kernel) hE hP hS (fun _ h => h) (fun _ _ h => h) rfl hl.1 rfl (Nat.le_of_ble_eq_true rfl) dX9_fact_55 ⟨by decide, by decide⟩ ⟨Nat.zero_le _, Nat.zero_le _⟩ (fun H locs hP hS => ?_)
            refine lv_if_eq (tgt := 77) hx hb dX9_fact_58 (by decide) (fun c47 => ?_) (fun c47 => ?_)
            · have h := g_ift c47 h
              refine lv_aload_n hx hb dX9_fact_77 rfl (lv_at hl 0 rfl) ?_
              refine lv_ldc hx hb hown (ht _ m_357) dX9_fact_78 ?_
              obtain ⟨r49, σ48, hcr49, h⟩ := g_bd h
              refine g_callV (As := [.int (-100001)]) (n := 1) hx hb hml hown ht (c_X9_finding l G _ _ hcr49) m_358 m_360 m_0 m_31 m_361 (by decide +kernel) (by decide) gE_0 rfl hE hP hS (fun _ h => h) (fun _ _ h => h) rfl hl.1 rfl (Nat.le_of_ble_eq_true rfl) dX9_fact_80 ⟨by decide, by decide⟩ ⟨Nat.zero_le _, Nat.zero_le _⟩ (fun H locs hP hS => ?_)
              exact g_iret hx hb hr hlk hE hP hS h dX9_fact_83
            · have h := g_iff c47 h
              refine lv_iload hx hb dX9_fact_61 (lv_at hl 6 rfl) ?_
              obtain ⟨r51, σ50, hcr51, h⟩ := g_bd h
              refine g_callS (As := [.int a6]) (n := 1) hx hb hml hown ht (c_X9_isDay l G _ _ hcr51) m_380 m_381 m_31 m_382 (by decide +kernel) hE hP hS (fun _ h => h) (fun _ _ h => h) rfl hl.1 rfl (Nat.le_of_ble_eq_true rfl) dX9_fact_63 ⟨by decide, by decide⟩ ⟨Nat.zero_le _, Nat.zero_le _⟩ (fun H locs hP hS => ?_)
              refine lv_if_eq (tgt := 77) hx hb dX9_fact_66 (by decide) (fun c52 => ?_) (fun c52 => ?_)
              · have h := g_ift c52 h
                refine lv_aload_n hx hb dX9_fact_77 rfl (lv_at hl 0 rfl) ?_
                refine lv_ldc hx hb hown (ht _ m_357) dX9_fact_78 ?_
                obtain ⟨r54, σ53, hcr54, h⟩ := g_bd h
                refine g_callV (As := [.int (-100001)]) (n := 1) hx hb hml hown ht (c_X9_finding l G _ _ hcr54) m_358 m_360 m_0 m_31 m_361 (by decide +kernel) (by decide) gE_0 rfl hE hP hS (fun _ h => h) (fun _ _ h => h) rfl hl.1 rfl (Nat.le_of_ble_eq_true rfl) dX9_fact_80 ⟨by decide, by decide⟩ ⟨Nat.zero_le _, Nat.zero_le _⟩ (fun H locs hP hS => ?_)
                exact g_iret hx hb hr hlk hE hP hS h dX9_fact_83
              · have h := g_iff c52 h
                refine lv_iload hx hb dX9_fact_69 (lv_at hl 7 rfl) ?_
                obtain ⟨r56, σ55, hcr56, h⟩ := g_bd h
                refine g_callS (As := [.int a7]) (n := 1) hx hb hml hown ht (c_X9_isDay l G _ _ hcr56) m_380 m_381 m_31 m_382 (by decide +kernel) hE hP hS (fun _ h => h) (fun _ _ h => h) rfl hl.1 rfl (Nat.le_of_ble_eq_true rfl) dX9_fact_71 ⟨by decide, by decide⟩ ⟨Nat.zero_le _, Nat.zero_le _⟩ (fun H locs hP hS => ?_)
                refine lv_if_ne (tgt := 84) hx hb dX9_fact_74 (by decide) (fun c57 => ?_) (fun c57 => ?_)
                · have h := g_iff c57 h
                  refine lv_iload hx hb dX9_fact_84 (lv_at hl 5 rfl) ?_
                  refine lv_iload hx hb dX9_fact_86 (lv_at hl 6 rfl) ?_
                  refine lv_icmp_le (tgt := 98) hx hb dX9_fact_88 (by decide) (fun c58 => ?_) (fun c58 => ?_)
                  · have h := g_ift c58 h
                    refine lv_aload_n hx hb dX9_fact_98 rfl (lv_at hl 0 rfl) ?_
                    refine g_get hx hb ht hown hE hP (by decide) gE_0 uX9 rfl 0 (by decide) m_331 rfl rfl dX9_fact_99 ?_
                    refine g_get hx hb ht hown hE hP (by decide) gE_1 uX0 rfl 2 (by decide) m_253 rfl rfl dX9_fact_102 ?_
                    refine g_get hx hb ht hown hE hP (by decide) gE_17 uX1 rfl 0 (by decide) m_123 rfl rfl dX9_fact_105 ?_
                    refine lv_bipush (v := 24) hx hb dX9_fact_108 (by decide) ?_
                    refine lv_icmp_lt (tgt := 120) hx hb dX9_fact_110 (by decide) (fun c59 => ?_) (fun c59 => ?_)
                    · have h := g_ift c59 h
                      refine lv_aload_n hx hb dX9_fact_120 rfl (lv_at hl 0 rfl) ?_
                      refine g_get hx hb ht hown hE hP (by decide) gE_0 uX9 rfl 0 (by decide) m_331 rfl rfl dX9_fact_121 ?_
                      refine g_get hx hb ht hown hE hP (by decide) gE_1 uX0 rfl 2 (by decide) m_253 rfl rfl dX9_fact_124 ?_
                      refine lv_iload_n hx hb dX9_fact_127 rfl (lv_at hl 1 rfl) ?_
                      refine lv_iload_n hx hb dX9_fact_128 rfl (lv_at hl 2 rfl) ?_
                      refine lv_iload_n hx hb dX9_fact_129 rfl (lv_at hl 3 rfl) ?_
                      refine lv_iload hx hb dX9_fact_130 (lv_at hl 4 rfl) ?_
                      refine lv_iload hx hb dX9_fact_132 (lv_at hl 5 rfl) ?_
                      refine lv_iload hx hb dX9_fact_134 (lv_at hl 6 rfl) ?_
                      refine lv_iload hx hb dX9_fact_136 (lv_at hl 7 rfl) ?_
                      obtain ⟨r61, σ60, hcr61, h⟩ := g_bd h
                      refine g_callV (As := [.int a1, .int a2, .int a3, .int a4, .int a5, .int a6, .int a7]) (n := 7) hx hb hml hown ht (c_X1_add l G _ _ _ _ _ _ _ _ hcr61) m_428 m_429 m_430 m_35 m_431 (by decide +kernel) (by decide) gE_17 rfl hE hP hS (fun _ h => h) (fun _ _ h => h) rfl hl.1 rfl (Nat.le_of_ble_eq_true rfl) dX9_fact_138 ⟨by decide, by decide⟩ ⟨Nat.zero_le _, Nat.zero_le _⟩ (fun H locs hP hS => ?_)
                      exact g_iret hx hb hr hlk hE hP hS h dX9_fact_141
                    · have h := g_iff c59 h
                      refine lv_aload_n hx hb dX9_fact_113 rfl (lv_at hl 0 rfl) ?_
                      refine lv_ldc hx hb hown (ht _ m_362) dX9_fact_114 ?_
                      obtain ⟨r63, σ62, hcr63, h⟩ := g_bd h
                      refine g_callV (As := [.int (-100005)]) (n := 1) hx hb hml hown ht (c_X9_finding l G _ _ hcr63) m_358 m_360 m_0 m_31 m_361 (by decide +kernel) (by decide) gE_0 rfl hE hP hS (fun _ h => h) (fun _ _ h => h) rfl hl.1 rfl (Nat.le_of_ble_eq_true rfl) dX9_fact_116 ⟨by decide, by decide⟩ ⟨Nat.zero_le _, Nat.zero_le _⟩ (fun H locs hP hS => ?_)
                      exact g_iret hx hb hr hlk hE hP hS h dX9_fact_119
                  · have h := g_iff c58 h
                    refine lv_aload_n hx hb dX9_fact_91 rfl (lv_at hl 0 rfl) ?_
                    refine lv_ldc hx hb hown (ht _ m_375) dX9_fact_92 ?_
                    obtain ⟨r65, σ64, hcr65, h⟩ := g_bd h
                    refine g_callV (As := [.int (-100003)]) (n := 1) hx hb hml hown ht (c_X9_finding l G _ _ hcr65) m_358 m_360 m_0 m_31 m_361 (by decide +kernel) (by decide) gE_0 rfl hE hP hS (fun _ h => h) (fun _ _ h => h) rfl hl.1 rfl (Nat.le_of_ble_eq_true rfl) dX9_fact_94 ⟨by decide, by decide⟩ ⟨Nat.zero_le _, Nat.zero_le _⟩ (fun H locs hP hS => ?_)
                    exact g_iret hx hb hr hlk hE hP hS h dX9_fact_97
                · have h := g_ift c57 h
                  refine lv_aload_n hx hb dX9_fact_77 rfl (lv_at hl 0 rfl) ?_
                  refine lv_ldc hx hb hown (ht _ m_357) dX9_fact_78 ?_
                  obtain ⟨r67, σ66, hcr67, h⟩ := g_bd h
                  refine g_callV (As := [.int (-100001)]) (n := 1) hx hb hml hown ht (c_X9_finding l G _ _ hcr67) m_358 m_360 m_0 m_31 m_361 (by decide +kernel) (by decide) gE_0 rfl hE hP hS (fun _ h => h) (fun _ _ h => h) rfl hl.1 rfl (Nat.le_of_ble_eq_true rfl) dX9_fact_80 ⟨by decide, by decide⟩ ⟨Nat.zero_le _, Nat.zero_le _⟩ (fun H locs hP hS => ?_)
                  exact g_iret hx hb hr hlk hE hP hS h dX9_fact_83

def M_X9_doubt (a1 a2 : Int32) (σ : gSt) : gO :=
  gBd (M_X1_has a1 σ) (fun r2 σ1 => if r2 = 0 then (gBd (M_X9_finding (-100001) σ1) (fun r24 σ23 => some (r24, σ23))) else (gBd (M_X1_isDoubted a1 σ1) (fun r5 σ4 => if r5 = a2 then (some (0, σ4)) else (if a2 = 0 then (if a2 = 0 then (gIx 24 a1 (gNm (gUp σ4 25 a1.toNatClampNeg 0) (fun σ10 => some (1, σ10)))) else (gIx 24 a1 (gNm (gUp σ4 25 a1.toNatClampNeg 1) (fun σ12 => some (1, σ12))))) else (gBd (M_X1_countDoubted σ4) (fun r14 σ13 => if r14 < 8 then (if a2 = 0 then (gIx 24 a1 (gNm (gUp σ13 25 a1.toNatClampNeg 0) (fun σ18 => some (1, σ18)))) else (gIx 24 a1 (gNm (gUp σ13 25 a1.toNatClampNeg 1) (fun σ20 => some (1, σ20))))) else (gBd (M_X9_finding (-100005) σ13) (fun r22 σ21 => some (r22, σ21)))))))))
set_option maxHeartbeats 4000000 in
set_option maxRecDepth 100000 in
theorem c_X9_doubt (l : Launch) (G : gPar) (a1 a2 : Int32) (σ : gSt) {r : Int32} {σ' : gSt} (h : M_X9_doubt a1 a2 σ = some (r, σ')) : gC l G yX9_doubt cX9_doubt 3 (some .int) 1 22 [.ref (G.2.2.1 0), .int a1, .int a2] σ r σ' := by
  refine gC_of (by decide) (Nat.le_of_ble_eq_true rfl) ?_
  intro p e s m below meth c hx hb hr ht hown hlk hml hE hP ls hl
  have hS : va_S (gA G) s.heap s.heap [] := va_S.rf
  have hl : lv_has ls 3 [(0, .ref (G.2.2.1 0)), (1, .int a1), (2, .int a2)] := hl
  unfold M_X9_doubt at h
  refine lv_aload_n hx hb dX9_doubt_0 rfl (lv_at hl 0 rfl) ?_
  refine g_get hx hb ht hown hE hP (by decide) gE_0 uX9 rfl 0 (by decide) m_331 rfl rfl dX9_doubt_1 ?_
  refine g_get hx hb ht hown hE hP (by decide) gE_1 uX0 rfl 2 (by decide) m_253 rfl rfl dX9_doubt_4 ?_
  refine lv_iload_n hx hb dX9_doubt_7 rfl (lv_at hl 1 rfl) ?_
  obtain ⟨r2, σ1, hcr2, h⟩ := g_bd h
  refine g_callV (As := [.int a1]) (n := 1) hx hb hml hown ht (c_X1_has l G _ _ hcr2) m_436 m_437 m_438 m_35 m_439 (by decide +kernel) (by decide) gE_17 rfl hE hP hS (fun _ h => h) (fun _ _ h => h) rfl hl.1 rfl (Nat.le_of_ble_eq_true rfl) dX9_doubt_8 ⟨by decide, by decide⟩ ⟨Nat.zero_le _, Nat.zero_le _⟩ (fun H locs hP hS => ?_)
  refine lv_if_ne (tgt := 21) hx hb dX9_doubt_11 (by decide) (fun c3 => ?_) (fun c3 => ?_)
  · have h := g_iff c3 h
    refine lv_aload_n hx hb dX9_doubt_21 rfl (lv_at hl 0 rfl) ?_
    refine g_get hx hb ht hown hE hP (by decide) gE_0 uX9 rfl 0 (by decide) m_331 rfl rfl dX9_doubt_22 ?_
    refine g_get hx hb ht hown hE hP (by decide) gE_1 uX0 rfl 2 (by decide) m_253 rfl rfl dX9_doubt_25 ?_
    refine lv_iload_n hx hb dX9_doubt_28 rfl (lv_at hl 1 rfl) ?_
    obtain ⟨r5, σ4, hcr5, h⟩ := g_bd h
    refine g_callV (As := [.int a1]) (n := 1) hx hb hml hown ht (c_X1_isDoubted l G _ _ hcr5) m_440 m_441 m_442 m_35 m_443 (by decide +kernel) (by decide) gE_17 rfl hE hP hS (fun _ h => h) (fun _ _ h => h) rfl hl.1 rfl (Nat.le_of_ble_eq_true rfl) dX9_doubt_29 ⟨by decide, by decide⟩ ⟨Nat.zero_le _, Nat.zero_le _⟩ (fun H locs hP hS => ?_)
    refine lv_iload_n hx hb dX9_doubt_32 rfl (lv_at hl 2 rfl) ?_
    refine lv_icmp_ne (tgt := 38) hx hb dX9_doubt_33 (by decide) (fun c6 => ?_) (fun c6 => ?_)
    · have h := g_iff c6 h
      refine lv_iload_n hx hb dX9_doubt_38 rfl (lv_at hl 2 rfl) ?_
      refine lv_if_eq (tgt := 64) hx hb dX9_doubt_39 (by decide) (fun c7 => ?_) (fun c7 => ?_)
      · have h := g_ift c7 h
        refine lv_aload_n hx hb dX9_doubt_64 rfl (lv_at hl 0 rfl) ?_
        refine g_get hx hb ht hown hE hP (by decide) gE_0 uX9 rfl 0 (by decide) m_331 rfl rfl dX9_doubt_65 ?_
        refine g_get hx hb ht hown hE hP (by decide) gE_1 uX0 rfl 2 (by decide) m_253 rfl rfl dX9_doubt_68 ?_
        refine g_get hx hb ht hown hE hP (by decide) gE_17 uX1 rfl 8 (by decide) m_139 rfl rfl dX9_doubt_71 ?_
        refine lv_iload_n hx hb dX9_doubt_74 rfl (lv_at hl 1 rfl) ?_
        refine lv_iload_n hx hb dX9_doubt_75 rfl (lv_at hl 2 rfl) ?_
        refine lv_if_eq (tgt := 83) hx hb dX9_doubt_76 (by decide) (fun c8 => ?_) (fun c8 => ?_)
        · have h := g_ift c8 h
          refine lv_iconst (v := 0) hx hb dX9_doubt_83 (by decide) ?_
          obtain ⟨i9, h⟩ := g_ix h
          refine g_iast hx hb hE hP hS (by decide) rfl (by decide) i9 dX9_doubt_84 (fun H locs σ10 eσ10 hP hS => ?_)
          have h := g_nm eσ10 h
          refine lv_iconst (v := 1) hx hb dX9_doubt_85 (by decide) ?_
          exact g_iret hx hb hr hlk hE hP hS h dX9_doubt_86
        · have h := g_iff c8 h
          refine lv_iconst (v := 1) hx hb dX9_doubt_79 (by decide) ?_
          refine lv_goto (tgt := 84) hx hb dX9_doubt_80 (by decide) ?_
          obtain ⟨i11, h⟩ := g_ix h
          refine g_iast hx hb hE hP hS (by decide) rfl (by decide) i11 dX9_doubt_84 (fun H locs σ12 eσ12 hP hS => ?_)
          have h := g_nm eσ12 h
          refine lv_iconst (v := 1) hx hb dX9_doubt_85 (by decide) ?_
          exact g_iret hx hb hr hlk hE hP hS h dX9_doubt_86
      · have h := g_iff c7 h
        refine lv_aload_n hx hb dX9_doubt_42 rfl (lv_at hl 0 rfl) ?_
        refine g_get hx hb ht hown hE hP (by decide) gE_0 uX9 rfl 0 (by decide) m_331 rfl rfl dX9_doubt_43 ?_
        refine g_get hx hb ht hown hE hP (by decide) gE_1 uX0 rfl 2 (by decide) m_253 rfl rfl dX9_doubt_46 ?_
        obtain ⟨r14, σ13, hcr14, h⟩ := g_bd h
        refine g_callV (As := []) (n := 0) hx hb hml hown ht (c_X1_countDoubted l G _ hcr14) m_444 m_445 m_446 m_35 m_447 (by decide +kernel) (by decide) gE_17 rfl hE hP hS (fun _ h => h) (fun _ _ h => h) rfl hl.1 rfl (Nat.le_of_ble_eq_true rfl) dX9_doubt_49 ⟨by decide, by decide⟩ ⟨Nat.zero_le _, Nat.zero_le _⟩ (fun H locs hP hS => ?_)
        refine lv_bipush (v := 8) hx hb dX9_doubt_52 (by decide) ?_
        refine lv_icmp_lt (tgt := 64) hx hb dX9_doubt_54 (by decide) (fun c15 => ?_) (fun c15 => ?_)
        · have h := g_ift c15 h
          refine lv_aload_n hx hb dX9_doubt_64 rfl (lv_at hl 0 rfl) ?_
          refine g_get hx hb ht hown hE hP (by decide) gE_0 uX9 rfl 0 (by decide) m_331 rfl rfl dX9_doubt_65 ?_
          refine g_get hx hb ht hown hE hP (by decide) gE_1 uX0 rfl 2 (by decide) m_253 rfl rfl dX9_doubt_68 ?_
          refine g_get hx hb ht hown hE hP (by decide) gE_17 uX1 rfl 8 (by decide) m_139 rfl rfl dX9_doubt_71 ?_
          refine lv_iload_n hx hb dX9_doubt_74 rfl (lv_at hl 1 rfl) ?_
          refine lv_iload_n hx hb dX9_doubt_75 rfl (lv_at hl 2 rfl) ?_
          refine lv_if_eq (tgt := 83) hx hb dX9_doubt_76 (by decide) (fun c16 => ?_) (fun c16 => ?_)
          · have h := g_ift c16 h
            refine lv_iconst (v := 0) hx hb dX9_doubt_83 (by decide) ?_
            obtain ⟨i17, h⟩ := g_ix h
            refine g_iast hx hb hE hP hS (by decide) rfl (by decide) i17 dX9_doubt_84 (fun H locs σ18 eσ18 hP hS => ?_)
            have h := g_nm eσ18 h
            refine lv_iconst (v := 1) hx hb dX9_doubt_85 (by decide) ?_
            exact g_iret hx hb hr hlk hE hP hS h dX9_doubt_86
          · have h := g_iff c16 h
            refine lv_iconst (v := 1) hx hb dX9_doubt_79 (by decide) ?_
            refine lv_goto (tgt := 84) hx hb dX9_doubt_80 (by decide) ?_
            obtain ⟨i19, h⟩ := g_ix h
            refine g_iast hx hb hE hP hS (by decide) rfl (by decide) i19 dX9_doubt_84 (fun H locs σ20 eσ20 hP hS => ?_)
            have h := g_nm eσ20 h
            refine lv_iconst (v := 1) hx hb dX9_doubt_85 (by decide) ?_
            exact g_iret hx hb hr hlk hE hP hS h dX9_doubt_86
        · have h := g_iff c15 h
          refine lv_aload_n hx hb dX9_doubt_57 rfl (lv_at hl 0 rfl) ?_
          refine lv_ldc hx hb hown (ht _ m_362) dX9_doubt_58 ?_
          obtain ⟨r22, σ21, hcr22, h⟩ := g_bd h
          refine g_callV (As := [.int (-100005)]) (n := 1) hx hb hml hown ht (c_X9_finding l G _ _ hcr22) m_358 m_360 m_0 m_31 m_361 (by decide +kernel) (by decide) gE_0 rfl hE hP hS (fun _ h => h) (fun _ _ h => h) rfl hl.1 rfl (Nat.le_of_ble_eq_true rfl) dX9_doubt_60 ⟨by decide, by decide⟩ ⟨Nat.zero_le _, Nat.zero_le _⟩ (fun H locs hP hS => ?_)
          exact g_iret hx hb hr hlk hE hP hS h dX9_doubt_63
    · have h := g_ift c6 h
      refine lv_iconst (v := 0) hx hb dX9_doubt_36 (by decide) ?_
      exact g_iret hx hb hr hlk hE hP hS h dX9_doubt_37
  · have h := g_ift c3 h
    refine lv_aload_n hx hb dX9_doubt_14 rfl (lv_at hl 0 rfl) ?_
    refine lv_ldc hx hb hown (ht _ m_357) dX9_doubt_15 ?_
    obtain ⟨r24, σ23, hcr24, h⟩ := g_bd h
    refine g_callV (As := [.int (-100001)]) (n := 1) hx hb hml hown ht (c_X9_finding l G _ _ hcr24) m_358 m_360 m_0 m_31 m_361 (by decide +kernel) (by decide) gE_0 rfl hE hP hS (fun _ h => h) (fun _ _ h => h) rfl hl.1 rfl (Nat.le_of_ble_eq_true rfl) dX9_doubt_17 ⟨by decide, by decide⟩ ⟨Nat.zero_le _, Nat.zero_le _⟩ (fun H locs hP hS => ?_)
    exact g_iret hx hb hr hlk hE hP hS h dX9_doubt_20

def M_X9_forget (σ : gSt) : gO :=
  if 0 < (σ 17 0) then (gNm (gUp σ 17 0 ((σ 17 0) - 1)) (fun σ2 => some ((σ2 17 0), σ2))) else (gBd (M_X9_finding (-100006) σ) (fun r4 σ3 => some (r4, σ3)))
set_option maxHeartbeats 4000000 in
set_option maxRecDepth 100000 in
theorem c_X9_forget (l : Launch) (G : gPar) (σ : gSt) {r : Int32} {σ' : gSt} (h : M_X9_forget σ = some (r, σ')) : gC l G yX9_forget cX9_forget 1 (some .int) 1 21 [.ref (G.2.2.1 0)] σ r σ' := by
  refine gC_of (by decide) (Nat.le_of_ble_eq_true rfl) ?_
  intro p e s m below meth c hx hb hr ht hown hlk hml hE hP ls hl
  have hS : va_S (gA G) s.heap s.heap [] := va_S.rf
  have hl : lv_has ls 1 [(0, .ref (G.2.2.1 0))] := hl
  unfold M_X9_forget at h
  refine lv_aload_n hx hb dX9_forget_0 rfl (lv_at hl 0 rfl) ?_
  refine g_get hx hb ht hown hE hP (by decide) gE_0 uX9 rfl 0 (by decide) m_331 rfl rfl dX9_forget_1 ?_
  refine g_get hx hb ht hown hE hP (by decide) gE_1 uX0 rfl 2 (by decide) m_253 rfl rfl dX9_forget_4 ?_
  refine g_get hx hb ht hown hE hP (by decide) gE_17 uX1 rfl 0 (by decide) m_123 rfl rfl dX9_forget_7 ?_
  refine lv_if_gt (tgt := 20) hx hb dX9_forget_10 (by decide) (fun c1 => ?_) (fun c1 => ?_)
  · have h := g_ift c1 h
    refine lv_aload_n hx hb dX9_forget_20 rfl (lv_at hl 0 rfl) ?_
    refine g_get hx hb ht hown hE hP (by decide) gE_0 uX9 rfl 0 (by decide) m_331 rfl rfl dX9_forget_21 ?_
    refine g_get hx hb ht hown hE hP (by decide) gE_1 uX0 rfl 2 (by decide) m_253 rfl rfl dX9_forget_24 ?_
    refine lv_dup hx hb dX9_forget_27 rfl ?_
    refine g_get hx hb ht hown hE hP (by decide) gE_17 uX1 rfl 0 (by decide) m_123 rfl rfl dX9_forget_28 ?_
    refine lv_iconst (v := 1) hx hb dX9_forget_31 (by decide) ?_
    refine lv_isub hx hb dX9_forget_32 ?_
    refine g_put hx hb ht hown hE hP hS (by decide) gE_17 uX1 tyX1_ok nmX1 rfl 0 (by decide) m_123 rfl rfl rfl rfl rfl (Nat.le_of_ble_eq_true rfl) rfl dX9_forget_33 (fun H locs σ2 eσ2 hP hS => ?_)
    have h := g_nm eσ2 h
    refine lv_aload_n hx hb dX9_forget_36 rfl (lv_at hl 0 rfl) ?_
    refine g_get hx hb ht hown hE hP (by decide) gE_0 uX9 rfl 0 (by decide) m_331 rfl rfl dX9_forget_37 ?_
    refine g_get hx hb ht hown hE hP (by decide) gE_1 uX0 rfl 2 (by decide) m_253 rfl rfl dX9_forget_40 ?_
    refine g_get hx hb ht hown hE hP (by decide) gE_17 uX1 rfl 0 (by decide) m_123 rfl rfl dX9_forget_43 ?_
    exact g_iret hx hb hr hlk hE hP hS h dX9_forget_46
  · have h := g_iff c1 h
    refine lv_aload_n hx hb dX9_forget_13 rfl (lv_at hl 0 rfl) ?_
    refine lv_ldc hx hb hown (ht _ m_452) dX9_forget_14 ?_
    obtain ⟨r4, σ3, hcr4, h⟩ := g_bd h
    refine g_callV (As := [.int (-100006)]) (n := 1) hx hb hml hown ht (c_X9_finding l G _ _ hcr4) m_358 m_360 m_0 m_31 m_361 (by decide +kernel) (by decide) gE_0 rfl hE hP hS (fun _ h => h) (fun _ _ h => h) rfl hl.1 rfl (Nat.le_of_ble_eq_true rfl) dX9_forget_16 ⟨by decide, by decide⟩ ⟨Nat.zero_le _, Nat.zero_le _⟩ (fun H locs hP hS => ?_)
    exact g_iret hx hb hr hlk hE hP hS h dX9_forget_19

def M_X9_law (a1 a2 a3 a4 : Int32) (σ : gSt) : gO :=
  gBd (M_X9_within a1 0 4 σ) (fun r2 σ1 => if r2 = 0 then (gBd (M_X9_finding (-100001) σ1) (fun r5 σ4 => some (r5, σ4))) else (gBd (M_X9_isDay a3 σ1) (fun r7 σ6 => if r7 = 0 then (gBd (M_X9_finding (-100001) σ6) (fun r10 σ9 => some (r10, σ9))) else (gBd (M_X9_isDay a4 σ6) (fun r12 σ11 => if r12 = 0 then (gBd (M_X9_finding (-100001) σ11) (fun r15 σ14 => some (r15, σ14))) else (gBd (M_X9_hasNumber a1 σ11) (fun r17 σ16 => if r17 = 0 then (if a3 ≤ a4 then (if (σ16 26 0) < 12 then (gBd (M_X2_add a1 a2 a3 a4 σ16) (fun r22 σ21 => some (r22, σ21))) else (gBd (M_X9_finding (-100005) σ16) (fun r24 σ23 => some (r24, σ23)))) else (gBd (M_X9_finding (-100003) σ16) (fun r26 σ25 => some (r26, σ25)))) else (gBd (M_X9_within a2 0 9999 σ16) (fun r28 σ27 => if r28 = 0 then (gBd (M_X9_finding (-100001) σ27) (fun r39 σ38 => some (r39, σ38))) else (if a3 ≤ a4 then (if (σ27 26 0) < 12 then (gBd (M_X2_add a1 a2 a3 a4 σ27) (fun r33 σ32 => some (r33, σ32))) else (gBd (M_X9_finding (-100005) σ27) (fun r35 σ34 => some (r35, σ34)))) else (gBd (M_X9_finding (-100003) σ27) (fun r37 σ36 => some (r37, σ36)))))))))))))
set_option maxHeartbeats 4000000 in
set_option maxRecDepth 100000 in
theorem c_X9_law (l : Launch) (G : gPar) (a1 a2 a3 a4 : Int32) (σ : gSt) {r : Int32} {σ' : gSt} (h : M_X9_law a1 a2 a3 a4 σ = some (r, σ')) : gC l G yX9_law cX9_law 5 (some .int) 2 42 [.ref (G.2.2.1 0), .int a1, .int a2, .int a3, .int a4] σ r σ' := by
  refine gC_of (by decide) (Nat.le_of_ble_eq_true rfl) ?_
  intro p e s m below meth c hx hb hr ht hown hlk hml hE hP ls hl
  have hS : va_S (gA G) s.heap s.heap [] := va_S.rf
  have hl : lv_has ls 5 [(0, .ref (G.2.2.1 0)), (1, .int a1), (2, .int a2), (3, .int a3), (4, .int a4)] := hl
  unfold M_X9_law at h
  refine lv_iload_n hx hb dX9_law_0 rfl (lv_at hl 1 rfl) ?_
  refine lv_iconst (v := 0) hx hb dX9_law_1 (by decide) ?_
  refine lv_iconst (v := 4) hx hb dX9_law_2 (by decide) ?_
  obtain ⟨r2, σ1, hcr2, h⟩ := g_bd h
  refine g_callS (As := [.int a1, .int 0, .int 4]) (n := 3) hx hb hml hown ht (c_X9_within l G _ _ _ _ hcr2) m_354 m_355 m_31 m_356 (by decide +kernel) hE hP hS (fun _ h => h) (fun _ _ h => h) rfl hl.1 rfl (Nat.le_of_ble_eq_true rfl) dX9_law_3 ⟨by decide, by decide⟩ ⟨Nat.zero_le _, Nat.zero_le _⟩ (fun H locs hP hS => ?_)
  refine lv_if_eq (tgt := 42) hx hb dX9_law_6 (by decide) (fun c3 => ?_) (fun c3 => ?_)
  · have h := g_ift c3 h
    refine lv_aload_n hx hb dX9_law_42 rfl (lv_at hl 0 rfl) ?_
    refine lv_ldc hx hb hown (ht _ m_357) dX9_law_43 ?_
    obtain ⟨r5, σ4, hcr5, h⟩ := g_bd h
    refine g_callV (As := [.int (-100001)]) (n := 1) hx hb hml hown ht (c_X9_finding l G _ _ hcr5) m_358 m_360 m_0 m_31 m_361 (by decide +kernel) (by decide) gE_0 rfl hE hP hS (fun _ h => h) (fun _ _ h => h) rfl hl.1 rfl (Nat.le_of_ble_eq_true rfl) dX9_law_45 ⟨by decide, by decide⟩ ⟨Nat.zero_le _, Nat.zero_le _⟩ (fun H locs hP hS => ?_)
    exact g_iret hx hb hr hlk hE hP hS h dX9_law_48
  · have h := g_iff c3 h
    refine lv_iload_n hx hb dX9_law_9 rfl (lv_at hl 3 rfl) ?_
    obtain ⟨r7, σ6, hcr7, h⟩ := g_bd h
    refine g_callS (As := [.int a3]) (n := 1) hx hb hml hown ht (c_X9_isDay l G _ _ hcr7) m_380 m_381 m_31 m_382 (by decide +kernel) hE hP hS (fun _ h => h) (fun _ _ h => h) rfl hl.1 rfl (Nat.le_of_ble_eq_true rfl) dX9_law_10 ⟨by decide, by decide⟩ ⟨Nat.zero_le _, Nat.zero_le _⟩ (fun H locs hP hS => ?_)
    refine lv_if_eq (tgt := 42) hx hb dX9_law_13 (by decide) (fun c8 => ?_) (fun c8 => ?_)
    · have h := g_ift c8 h
      refine lv_aload_n hx hb dX9_law_42 rfl (lv_at hl 0 rfl) ?_
      refine lv_ldc hx hb hown (ht _ m_357) dX9_law_43 ?_
      obtain ⟨r10, σ9, hcr10, h⟩ := g_bd h
      refine g_callV (As := [.int (-100001)]) (n := 1) hx hb hml hown ht (c_X9_finding l G _ _ hcr10) m_358 m_360 m_0 m_31 m_361 (by decide +kernel) (by decide) gE_0 rfl hE hP hS (fun _ h => h) (fun _ _ h => h) rfl hl.1 rfl (Nat.le_of_ble_eq_true rfl) dX9_law_45 ⟨by decide, by decide⟩ ⟨Nat.zero_le _, Nat.zero_le _⟩ (fun H locs hP hS => ?_)
      exact g_iret hx hb hr hlk hE hP hS h dX9_law_48
    · have h := g_iff c8 h
      refine lv_iload hx hb dX9_law_16 (lv_at hl 4 rfl) ?_
      obtain ⟨r12, σ11, hcr12, h⟩ := g_bd h
      refine g_callS (As := [.int a4]) (n := 1) hx hb hml hown ht (c_X9_isDay l G _ _ hcr12) m_380 m_381 m_31 m_382 (by decide +kernel) hE hP hS (fun _ h => h) (fun _ _ h => h) rfl hl.1 rfl (Nat.le_of_ble_eq_true rfl) dX9_law_18 ⟨by decide, by decide⟩ ⟨Nat.zero_le _, Nat.zero_le _⟩ (fun H locs hP hS => ?_)
      refine lv_if_eq (tgt := 42) hx hb dX9_law_21 (by decide) (fun c13 => ?_) (fun c13 => ?_)
      · have h := g_ift c13 h
        refine lv_aload_n hx hb dX9_law_42 rfl (lv_at hl 0 rfl) ?_
        refine lv_ldc hx hb hown (ht _ m_357) dX9_law_43 ?_
        obtain ⟨r15, σ14, hcr15, h⟩ := g_bd h
        refine g_callV (As := [.int (-100001)]) (n := 1) hx hb hml hown ht (c_X9_finding l G _ _ hcr15) m_358 m_360 m_0 m_31 m_361 (by decide +kernel) (by decide) gE_0 rfl hE hP hS (fun _ h => h) (fun _ _ h => h) rfl hl.1 rfl (Nat.le_of_ble_eq_true rfl) dX9_law_45 ⟨by decide, by decide⟩ ⟨Nat.zero_le _, Nat.zero_le _⟩ (fun H locs hP hS => ?_)
        exact g_iret hx hb hr hlk hE hP hS h dX9_law_48
      · have h := g_iff c13 h
        refine lv_iload_n hx hb dX9_law_24 rfl (lv_at hl 1 rfl) ?_
        obtain ⟨r17, σ16, hcr17, h⟩ := g_bd h
        refine g_callS (As := [.int a1]) (n := 1) hx hb hml hown ht (c_X9_hasNumber l G _ _ hcr17) m_457 m_458 m_31 m_459 (by decide +kernel) hE hP hS (fun _ h => h) (fun _ _ h => h) rfl hl.1 rfl (Nat.le_of_ble_eq_true rfl) dX9_law_25 ⟨by decide, by decide⟩ ⟨Nat.zero_le _, Nat.zero_le _⟩ (fun H locs hP hS => ?_)
        refine lv_if_eq (tgt := 49) hx hb dX9_law_28 (by decide) (fun c18 => ?_) (fun c18 => ?_)
        · have h := g_ift c18 h
          refine lv_iload_n hx hb dX9_law_49 rfl (lv_at hl 3 rfl) ?_
          refine lv_iload hx hb dX9_law_50 (lv_at hl 4 rfl) ?_
          refine lv_icmp_le (tgt := 62) hx hb dX9_law_52 (by decide) (fun c19 => ?_) (fun c19 => ?_)
          · have h := g_ift c19 h
            refine lv_aload_n hx hb dX9_law_62 rfl (lv_at hl 0 rfl) ?_
            refine g_get hx hb ht hown hE hP (by decide) gE_0 uX9 rfl 0 (by decide) m_331 rfl rfl dX9_law_63 ?_
            refine g_get hx hb ht hown hE hP (by decide) gE_1 uX0 rfl 3 (by decide) m_256 rfl rfl dX9_law_66 ?_
            refine g_get hx hb ht hown hE hP (by decide) gE_26 uX2 rfl 0 (by decide) m_166 rfl rfl dX9_law_69 ?_
            refine lv_bipush (v := 12) hx hb dX9_law_72 (by decide) ?_
            refine lv_icmp_lt (tgt := 84) hx hb dX9_law_74 (by decide) (fun c20 => ?_) (fun c20 => ?_)
            · have h := g_ift c20 h
              refine lv_aload_n hx hb dX9_law_84 rfl (lv_at hl 0 rfl) ?_
              refine g_get hx hb ht hown hE hP (by decide) gE_0 uX9 rfl 0 (by decide) m_331 rfl rfl dX9_law_85 ?_
              refine g_get hx hb ht hown hE hP (by decide) gE_1 uX0 rfl 3 (by decide) m_256 rfl rfl dX9_law_88 ?_
              refine lv_iload_n hx hb dX9_law_91 rfl (lv_at hl 1 rfl) ?_
              refine lv_iload_n hx hb dX9_law_92 rfl (lv_at hl 2 rfl) ?_
              refine lv_iload_n hx hb dX9_law_93 rfl (lv_at hl 3 rfl) ?_
              refine lv_iload hx hb dX9_law_94 (lv_at hl 4 rfl) ?_
              obtain ⟨r22, σ21, hcr22, h⟩ := g_bd h
              refine g_callV (As := [.int a1, .int a2, .int a3, .int a4]) (n := 4) hx hb hml hown ht (c_X2_add l G _ _ _ _ _ hcr22) m_460 m_461 m_462 m_36 m_463 (by decide +kernel) (by decide) gE_26 rfl hE hP hS (fun _ h => h) (fun _ _ h => h) rfl hl.1 rfl (Nat.le_of_ble_eq_true rfl) dX9_law_96 ⟨by decide, by decide⟩ ⟨Nat.zero_le _, Nat.zero_le _⟩ (fun H locs hP hS => ?_)
              exact g_iret hx hb hr hlk hE hP hS h dX9_law_99
            · have h := g_iff c20 h
              refine lv_aload_n hx hb dX9_law_77 rfl (lv_at hl 0 rfl) ?_
              refine lv_ldc hx hb hown (ht _ m_362) dX9_law_78 ?_
              obtain ⟨r24, σ23, hcr24, h⟩ := g_bd h
              refine g_callV (As := [.int (-100005)]) (n := 1) hx hb hml hown ht (c_X9_finding l G _ _ hcr24) m_358 m_360 m_0 m_31 m_361 (by decide +kernel) (by decide) gE_0 rfl hE hP hS (fun _ h => h) (fun _ _ h => h) rfl hl.1 rfl (Nat.le_of_ble_eq_true rfl) dX9_law_80 ⟨by decide, by decide⟩ ⟨Nat.zero_le _, Nat.zero_le _⟩ (fun H locs hP hS => ?_)
              exact g_iret hx hb hr hlk hE hP hS h dX9_law_83
          · have h := g_iff c19 h
            refine lv_aload_n hx hb dX9_law_55 rfl (lv_at hl 0 rfl) ?_
            refine lv_ldc hx hb hown (ht _ m_375) dX9_law_56 ?_
            obtain ⟨r26, σ25, hcr26, h⟩ := g_bd h
            refine g_callV (As := [.int (-100003)]) (n := 1) hx hb hml hown ht (c_X9_finding l G _ _ hcr26) m_358 m_360 m_0 m_31 m_361 (by decide +kernel) (by decide) gE_0 rfl hE hP hS (fun _ h => h) (fun _ _ h => h) rfl hl.1 rfl (Nat.le_of_ble_eq_true rfl) dX9_law_58 ⟨by decide, by decide⟩ ⟨Nat.zero_le _, Nat.zero_le _⟩ (fun H locs hP hS => ?_)
            exact g_iret hx hb hr hlk hE hP hS h dX9_law_61
        · have h := g_iff c18 h
          refine lv_iload_n hx hb dX9_law_31 rfl (lv_at hl 2 rfl) ?_
          refine lv_iconst (v := 0) hx hb dX9_law_32 (by decide) ?_
          refine lv_sipush (v := 9999) hx hb dX9_law_33 (by decide) ?_
          obtain ⟨r28, σ27, hcr28, h⟩ := g_bd h
          refine g_callS (As := [.int a2, .int 0, .int 9999]) (n := 3) hx hb hml hown ht (c_X9_within l G _ _ _ _ hcr28) m_354 m_355 m_31 m_356 (by decide +kernel) hE hP hS (fun _ h => h) (fun _ _ h => h) rfl hl.1 rfl (Nat.le_of_ble_eq_true rfl) dX9_law_36 ⟨by decide, by decide⟩ ⟨Nat.zero_le _, Nat.zero_le _⟩ (fun H locs hP hS => ?_)
          refine lv_if_ne (tgt := 49) hx hb dX9_law_39 (by decide) (fun c29 => ?_) (fun c29 => ?_)
          · have h := g_iff c29 h
            refine lv_iload_n hx hb dX9_law_49 rfl (lv_at hl 3 rfl) ?_
            refine lv_iload hx hb dX9_law_50 (lv_at hl 4 rfl) ?_
            refine lv_icmp_le (tgt := 62) hx hb dX9_law_52 (by decide) (fun c30 => ?_) (fun c30 => ?_)
            · have h := g_ift c30 h
              refine lv_aload_n hx hb dX9_law_62 rfl (lv_at hl 0 rfl) ?_
              refine g_get hx hb ht hown hE hP (by decide) gE_0 uX9 rfl 0 (by decide) m_331 rfl rfl dX9_law_63 ?_
              refine g_get hx hb ht hown hE hP (by decide) gE_1 uX0 rfl 3 (by decide) m_256 rfl rfl dX9_law_66 ?_
              refine g_get hx hb ht hown hE hP (by decide) gE_26 uX2 rfl 0 (by decide) m_166 rfl rfl dX9_law_69 ?_
              refine lv_bipush (v := 12) hx hb dX9_law_72 (by decide) ?_
              refine lv_icmp_lt (tgt := 84) hx hb dX9_law_74 (by decide) (fun c31 => ?_) (fun c31 => ?_)
              · have h := g_ift c31 h
                refine lv_aload_n hx hb dX9_law_84 rfl (lv_at hl 0 rfl) ?_
                refine g_get hx hb ht hown hE hP (by decide) gE_0 uX9 rfl 0 (by decide) m_331 rfl rfl dX9_law_85 ?_
                refine g_get hx hb ht hown hE hP (by decide) gE_1 uX0 rfl 3 (by decide) m_256 rfl rfl dX9_law_88 ?_
                refine lv_iload_n hx hb dX9_law_91 rfl (lv_at hl 1 rfl) ?_
                refine lv_iload_n hx hb dX9_law_92 rfl (lv_at hl 2 rfl) ?_
                refine lv_iload_n hx hb dX9_law_93 rfl (lv_at hl 3 rfl) ?_
                refine lv_iload hx hb dX9_law_94 (lv_at hl 4 rfl) ?_
                obtain ⟨r33, σ32, hcr33, h⟩ := g_bd h
                refine g_callV (As := [.int a1, .int a2, .int a3, .int a4]) (n := 4) hx hb hml hown ht (c_X2_add l G _ _ _ _ _ hcr33) m_460 m_461 m_462 m_36 m_463 (by decide +kernel) (by decide) gE_26 rfl hE hP hS (fun _ h => h) (fun _ _ h => h) rfl hl.1 rfl (Nat.le_of_ble_eq_true rfl) dX9_law_96 ⟨by decide, by decide⟩ ⟨Nat.zero_le _, Nat.zero_le _⟩ (fun H locs hP hS => ?_)
                exact g_iret hx hb hr hlk hE hP hS h dX9_law_99
              · have h := g_iff c31 h
                refine lv_aload_n hx hb dX9_law_77 rfl (lv_at hl 0 rfl) ?_
                refine lv_ldc hx hb hown (ht _ m_362) dX9_law_78 ?_
                obtain ⟨r35, σ34, hcr35, h⟩ := g_bd h
                refine g_callV (As := [.int (-100005)]) (n := 1) hx hb hml hown ht (c_X9_finding l G _ _ hcr35) m_358 m_360 m_0 m_31 m_361 (by decide +kernel) (by decide) gE_0 rfl hE hP hS (fun _ h => h) (fun _ _ h => h) rfl hl.1 rfl (Nat.le_of_ble_eq_true rfl) dX9_law_80 ⟨by decide, by decide⟩ ⟨Nat.zero_le _, Nat.zero_le _⟩ (fun H locs hP hS => ?_)
                exact g_iret hx hb hr hlk hE hP hS h dX9_law_83
            · have h := g_iff c30 h
              refine lv_aload_n hx hb dX9_law_55 rfl (lv_at hl 0 rfl) ?_
              refine lv_ldc hx hb hown (ht _ m_375) dX9_law_56 ?_
              obtain ⟨r37, σ36, hcr37, h⟩ := g_bd h
              refine g_callV (As := [.int (-100003)]) (n := 1) hx hb hml hown ht (c_X9_finding l G _ _ hcr37) m_358 m_360 m_0 m_31 m_361 (by decide +kernel) (by decide) gE_0 rfl hE hP hS (fun _ h => h) (fun _ _ h => h) rfl hl.1 rfl (Nat.le_of_ble_eq_true rfl) dX9_law_58 ⟨by decide, by decide⟩ ⟨Nat.zero_le _, Nat.zero_le _⟩ (fun H locs hP hS => ?_)
              exact g_iret hx hb hr hlk hE hP hS h dX9_law_61
          · have h := g_ift c29 h
            refine lv_aload_n hx hb dX9_law_42 rfl (lv_at hl 0 rfl) ?_
            refine lv_ldc hx hb hown (ht _ m_357) dX9_law_43 ?_
            obtain ⟨r39, σ38, hcr39, h⟩ := g_bd h
            refine g_callV (As := [.int (-100001)]) (n := 1) hx hb hml hown ht (c_X9_finding l G _ _ hcr39) m_358 m_360 m_0 m_31 m_361 (by decide +kernel) (by decide) gE_0 rfl hE hP hS (fun _ h => h) (fun _ _ h => h) rfl hl.1 rfl (Nat.le_of_ble_eq_true rfl) dX9_law_45 ⟨by decide, by decide⟩ ⟨Nat.zero_le _, Nat.zero_le _⟩ (fun H locs hP hS => ?_)
            exact g_iret hx hb hr hlk hE hP hS h dX9_law_48

def M_X9_ends (a1 a2 : Int32) (σ : gSt) : gO :=
  gBd (M_X2_has a1 σ) (fun r2 σ1 => if r2 = 0 then (gBd (M_X9_finding (-100001) σ1) (fun r5 σ4 => some (r5, σ4))) else (gBd (M_X9_isDay a2 σ1) (fun r7 σ6 => if r7 = 0 then (gBd (M_X9_finding (-100001) σ6) (fun r18 σ17 => some (r18, σ17))) else (gIx 12 a1 (if (σ6 29 a1.toNatClampNeg) ≤ a2 then (gIx 12 a1 (gNm ((σ6 30 a1.toNatClampNeg) : Int32) (fun x12 => gIx 12 a1 (gNm (gUp σ6 30 a1.toNatClampNeg a2) (fun σ14 => some (x12, σ14)))))) else (gBd (M_X9_finding (-100003) σ6) (fun r16 σ15 => some (r16, σ15))))))))
set_option maxHeartbeats 4000000 in
set_option maxRecDepth 100000 in
theorem c_X9_ends (l : Launch) (G : gPar) (a1 a2 : Int32) (σ : gSt) {r : Int32} {σ' : gSt} (h : M_X9_ends a1 a2 σ = some (r, σ')) : gC l G yX9_ends cX9_ends 4 (some .int) 2 42 [.ref (G.2.2.1 0), .int a1, .int a2] σ r σ' := by
  refine gC_of (by decide) (Nat.le_of_ble_eq_true rfl) ?_
  intro p e s m below meth c hx hb hr ht hown hlk hml hE hP ls hl
  have hS : va_S (gA G) s.heap s.heap [] := va_S.rf
  have hl : lv_has ls 4 [(0, .ref (G.2.2.1 0)), (1, .int a1), (2, .int a2)] := hl
  unfold M_X9_ends at h
  refine lv_aload_n hx hb dX9_ends_0 rfl (lv_at hl 0 rfl) ?_
  refine g_get hx hb ht hown hE hP (by decide) gE_0 uX9 rfl 0 (by decide) m_331 rfl rfl dX9_ends_1 ?_
  refine g_get hx hb ht hown hE hP (by decide) gE_1 uX0 rfl 3 (by decide) m_256 rfl rfl dX9_ends_4 ?_
  refine lv_iload_n hx hb dX9_ends_7 rfl (lv_at hl 1 rfl) ?_
  obtain ⟨r2, σ1, hcr2, h⟩ := g_bd h
  refine g_callV (As := [.int a1]) (n := 1) hx hb hml hown ht (c_X2_has l G _ _ hcr2) m_468 m_469 m_470 m_36 m_471 (by decide +kernel) (by decide) gE_26 rfl hE hP hS (fun _ h => h) (fun _ _ h => h) rfl hl.1 rfl (Nat.le_of_ble_eq_true rfl) dX9_ends_8 ⟨by decide, by decide⟩ ⟨Nat.zero_le _, Nat.zero_le _⟩ (fun H locs hP hS => ?_)
  refine lv_if_eq (tgt := 21) hx hb dX9_ends_11 (by decide) (fun c3 => ?_) (fun c3 => ?_)
  · have h := g_ift c3 h
    refine lv_aload_n hx hb dX9_ends_21 rfl (lv_at hl 0 rfl) ?_
    refine lv_ldc hx hb hown (ht _ m_357) dX9_ends_22 ?_
    obtain ⟨r5, σ4, hcr5, h⟩ := g_bd h
    refine g_callV (As := [.int (-100001)]) (n := 1) hx hb hml hown ht (c_X9_finding l G _ _ hcr5) m_358 m_360 m_0 m_31 m_361 (by decide +kernel) (by decide) gE_0 rfl hE hP hS (fun _ h => h) (fun _ _ h => h) rfl hl.1 rfl (Nat.le_of_ble_eq_true rfl) dX9_ends_24 ⟨by decide, by decide⟩ ⟨Nat.zero_le _, Nat.zero_le _⟩ (fun H locs hP hS => ?_)
    exact g_iret hx hb hr hlk hE hP hS h dX9_ends_27
  · have h := g_iff c3 h
    refine lv_iload_n hx hb dX9_ends_14 rfl (lv_at hl 2 rfl) ?_
    obtain ⟨r7, σ6, hcr7, h⟩ := g_bd h
    refine g_callS (As := [.int a2]) (n := 1) hx hb hml hown ht (c_X9_isDay l G _ _ hcr7) m_380 m_381 m_31 m_382 (by decide +kernel) hE hP hS (fun _ h => h) (fun _ _ h => h) rfl hl.1 rfl (Nat.le_of_ble_eq_true rfl) dX9_ends_15 ⟨by decide, by decide⟩ ⟨Nat.zero_le _, Nat.zero_le _⟩ (fun H locs hP hS => ?_)
    refine lv_if_ne (tgt := 28) hx hb dX9_ends_18 (by decide) (fun c8 => ?_) (fun c8 => ?_)
    · have h := g_iff c8 h
      refine lv_iload_n hx hb dX9_ends_28 rfl (lv_at hl 2 rfl) ?_
      refine lv_aload_n hx hb dX9_ends_29 rfl (lv_at hl 0 rfl) ?_
      refine g_get hx hb ht hown hE hP (by decide) gE_0 uX9 rfl 0 (by decide) m_331 rfl rfl dX9_ends_30 ?_
      refine g_get hx hb ht hown hE hP (by decide) gE_1 uX0 rfl 3 (by decide) m_256 rfl rfl dX9_ends_33 ?_
      refine g_get hx hb ht hown hE hP (by decide) gE_26 uX2 rfl 3 (by decide) m_170 rfl rfl dX9_ends_36 ?_
      refine lv_iload_n hx hb dX9_ends_39 rfl (lv_at hl 1 rfl) ?_
      obtain ⟨i9, h⟩ := g_ix h
      refine g_iald hx hb hE hP (by decide) rfl (by decide) i9 dX9_ends_40 ?_
      refine lv_icmp_ge (tgt := 51) hx hb dX9_ends_41 (by decide) (fun c10 => ?_) (fun c10 => ?_)
      · have h := g_ift c10 h
        refine lv_aload_n hx hb dX9_ends_51 rfl (lv_at hl 0 rfl) ?_
        refine g_get hx hb ht hown hE hP (by decide) gE_0 uX9 rfl 0 (by decide) m_331 rfl rfl dX9_ends_52 ?_
        refine g_get hx hb ht hown hE hP (by decide) gE_1 uX0 rfl 3 (by decide) m_256 rfl rfl dX9_ends_55 ?_
        refine g_get hx hb ht hown hE hP (by decide) gE_26 uX2 rfl 4 (by decide) m_172 rfl rfl dX9_ends_58 ?_
        refine lv_iload_n hx hb dX9_ends_61 rfl (lv_at hl 1 rfl) ?_
        obtain ⟨i11, h⟩ := g_ix h
        refine g_iald hx hb hE hP (by decide) rfl (by decide) i11 dX9_ends_62 ?_
        refine lv_topi (fun x12 ex12 => ?_)
        have h := g_nm ex12 h
        refine lv_istore_n (lv' := [(3, .int x12), (0, .ref (G.2.2.1 0)), (1, .int a1), (2, .int a2)]) hx hb dX9_ends_63 rfl hl (by decide) rfl (fun ls hl => ?_)
        refine lv_aload_n hx hb dX9_ends_64 rfl (lv_at hl 1 rfl) ?_
        refine g_get hx hb ht hown hE hP (by decide) gE_0 uX9 rfl 0 (by decide) m_331 rfl rfl dX9_ends_65 ?_
        refine g_get hx hb ht hown hE hP (by decide) gE_1 uX0 rfl 3 (by decide) m_256 rfl rfl dX9_ends_68 ?_
        refine g_get hx hb ht hown hE hP (by decide) gE_26 uX2 rfl 4 (by decide) m_172 rfl rfl dX9_ends_71 ?_
        refine lv_iload_n hx hb dX9_ends_74 rfl (lv_at hl 2 rfl) ?_
        refine lv_iload_n hx hb dX9_ends_75 rfl (lv_at hl 3 rfl) ?_
        obtain ⟨i13, h⟩ := g_ix h
        refine g_iast hx hb hE hP hS (by decide) rfl (by decide) i13 dX9_ends_76 (fun H locs σ14 eσ14 hP hS => ?_)
        have h := g_nm eσ14 h
        refine lv_iload_n hx hb dX9_ends_77 rfl (lv_at hl 0 rfl) ?_
        exact g_iret hx hb hr hlk hE hP hS h dX9_ends_78
      · have h := g_iff c10 h
        refine lv_aload_n hx hb dX9_ends_44 rfl (lv_at hl 0 rfl) ?_
        refine lv_ldc hx hb hown (ht _ m_375) dX9_ends_45 ?_
        obtain ⟨r16, σ15, hcr16, h⟩ := g_bd h
        refine g_callV (As := [.int (-100003)]) (n := 1) hx hb hml hown ht (c_X9_finding l G _ _ hcr16) m_358 m_360 m_0 m_31 m_361 (by decide +kernel) (by decide) gE_0 rfl hE hP hS (fun _ h => h) (fun _ _ h => h) rfl hl.1 rfl (Nat.le_of_ble_eq_true rfl) dX9_ends_47 ⟨by decide, by decide⟩ ⟨Nat.zero_le _, Nat.zero_le _⟩ (fun H locs hP hS => ?_)
        exact g_iret hx hb hr hlk hE hP hS h dX9_ends_50
    · have h := g_ift c8 h
      refine lv_aload_n hx hb dX9_ends_21 rfl (lv_at hl 0 rfl) ?_
      refine lv_ldc hx hb hown (ht _ m_357) dX9_ends_22 ?_
      obtain ⟨r18, σ17, hcr18, h⟩ := g_bd h
      refine g_callV (As := [.int (-100001)]) (n := 1) hx hb hml hown ht (c_X9_finding l G _ _ hcr18) m_358 m_360 m_0 m_31 m_361 (by decide +kernel) (by decide) gE_0 rfl hE hP hS (fun _ h => h) (fun _ _ h => h) rfl hl.1 rfl (Nat.le_of_ble_eq_true rfl) dX9_ends_24 ⟨by decide, by decide⟩ ⟨Nat.zero_le _, Nat.zero_le _⟩ (fun H locs hP hS => ?_)
      exact g_iret hx hb hr hlk hE hP hS h dX9_ends_27

def M_X9_own (a1 a2 a3 : Int32) (σ : gSt) : gO :=
  gBd (M_X9_canReckon a1 a2 a3 σ) (fun r2 σ1 => if r2 = 0 then (gBd (M_X9_finding (-100001) σ1) (fun r9 σ8 => some (r9, σ8))) else (gBd (M_X7_ownOf a1 a2 a3 σ1) (fun r5 σ4 => gBd (M_X9_parishOrNone r5 σ4) (fun r7 σ6 => some (r7, σ6)))))
set_option maxHeartbeats 4000000 in
set_option maxRecDepth 100000 in
theorem c_X9_own (l : Launch) (G : gPar) (a1 a2 a3 : Int32) (σ : gSt) {r : Int32} {σ' : gSt} (h : M_X9_own a1 a2 a3 σ = some (r, σ')) : gC l G yX9_own cX9_own 4 (some .int) 5 121 [.ref (G.2.2.1 0), .int a1, .int a2, .int a3] σ r σ' := by
  refine gC_of (by decide) (Nat.le_of_ble_eq_true rfl) ?_
  intro p e s m below meth c hx hb hr ht hown hlk hml hE hP ls hl
  have hS : va_S (gA G) s.heap s.heap [] := va_S.rf
  have hl : lv_has ls 4 [(0, .ref (G.2.2.1 0)), (1, .int a1), (2, .int a2), (3, .int a3)] := hl
  unfold M_X9_own at h
  refine lv_aload_n hx hb dX9_own_0 rfl (lv_at hl 0 rfl) ?_
  refine lv_iload_n hx hb dX9_own_1 rfl (lv_at hl 1 rfl) ?_
  refine lv_iload_n hx hb dX9_own_2 rfl (lv_at hl 2 rfl) ?_
  refine lv_iload_n hx hb dX9_own_3 rfl (lv_at hl 3 rfl) ?_
  obtain ⟨r2, σ1, hcr2, h⟩ := g_bd h
  refine g_callV (As := [.int a1, .int a2, .int a3]) (n := 3) hx hb hml hown ht (c_X9_canReckon l G _ _ _ _ hcr2) m_476 m_478 m_1 m_31 m_479 (by decide +kernel) (by decide) gE_0 rfl hE hP hS (fun _ h => h) (fun _ _ h => h) rfl hl.1 rfl (Nat.le_of_ble_eq_true rfl) dX9_own_4 ⟨by decide, by decide⟩ ⟨Nat.zero_le _, Nat.zero_le _⟩ (fun H locs hP hS => ?_)
  refine lv_if_ne (tgt := 17) hx hb dX9_own_7 (by decide) (fun c3 => ?_) (fun c3 => ?_)
  · have h := g_iff c3 h
    refine lv_aload_n hx hb dX9_own_17 rfl (lv_at hl 0 rfl) ?_
    refine lv_aload_n hx hb dX9_own_18 rfl (lv_at hl 0 rfl) ?_
    refine g_get hx hb ht hown hE hP (by decide) gE_0 uX9 rfl 2 (by decide) m_333 rfl rfl dX9_own_19 ?_
    refine lv_iload_n hx hb dX9_own_22 rfl (lv_at hl 1 rfl) ?_
    refine lv_iload_n hx hb dX9_own_23 rfl (lv_at hl 2 rfl) ?_
    refine lv_iload_n hx hb dX9_own_24 rfl (lv_at hl 3 rfl) ?_
    obtain ⟨r5, σ4, hcr5, h⟩ := g_bd h
    refine g_callV (As := [.int a1, .int a2, .int a3]) (n := 3) hx hb hml hown ht (c_X7_ownOf l G _ _ _ _ hcr5) m_480 m_481 m_482 m_39 m_483 (by decide +kernel) (by decide) gE_85 rfl hE hP hS (fun _ h => h) (fun _ _ h => h) rfl hl.1 rfl (Nat.le_of_ble_eq_true rfl) dX9_own_25 ⟨by decide, by decide⟩ ⟨Nat.zero_le _, Nat.zero_le _⟩ (fun H locs hP hS => ?_)
    obtain ⟨r7, σ6, hcr7, h⟩ := g_bd h
    refine g_callV (As := [.int r5]) (n := 1) hx hb hml hown ht (c_X9_parishOrNone l G _ _ hcr7) m_526 m_528 m_8 m_31 m_529 (by decide +kernel) (by decide) gE_0 rfl hE hP hS (fun _ h => h) (fun _ _ h => h) rfl hl.1 rfl (Nat.le_of_ble_eq_true rfl) dX9_own_28 ⟨by decide, by decide⟩ ⟨Nat.zero_le _, Nat.zero_le _⟩ (fun H locs hP hS => ?_)
    exact g_iret hx hb hr hlk hE hP hS h dX9_own_31
  · have h := g_ift c3 h
    refine lv_aload_n hx hb dX9_own_10 rfl (lv_at hl 0 rfl) ?_
    refine lv_ldc hx hb hown (ht _ m_357) dX9_own_11 ?_
    obtain ⟨r9, σ8, hcr9, h⟩ := g_bd h
    refine g_callV (As := [.int (-100001)]) (n := 1) hx hb hml hown ht (c_X9_finding l G _ _ hcr9) m_358 m_360 m_0 m_31 m_361 (by decide +kernel) (by decide) gE_0 rfl hE hP hS (fun _ h => h) (fun _ _ h => h) rfl hl.1 rfl (Nat.le_of_ble_eq_true rfl) dX9_own_13 ⟨by decide, by decide⟩ ⟨Nat.zero_le _, Nat.zero_le _⟩ (fun H locs hP hS => ?_)
    exact g_iret hx hb hr hlk hE hP hS h dX9_own_16

def M_X9_settlement (a1 a2 a3 : Int32) (σ : gSt) : gO :=
  gBd (M_X9_canReckon a1 a2 a3 σ) (fun r2 σ1 => if r2 = 0 then (gBd (M_X9_finding (-100001) σ1) (fun r9 σ8 => some (r9, σ8))) else (gBd (M_X7_settlementOf a1 a2 a3 σ1) (fun r5 σ4 => gBd (M_X9_parishOrNone r5 σ4) (fun r7 σ6 => some (r7, σ6)))))
set_option maxHeartbeats 4000000 in
set_option maxRecDepth 100000 in
theorem c_X9_settlement (l : Launch) (G : gPar) (a1 a2 a3 : Int32) (σ : gSt) {r : Int32} {σ' : gSt} (h : M_X9_settlement a1 a2 a3 σ = some (r, σ')) : gC l G yX9_settlement cX9_settlement 4 (some .int) 5 122 [.ref (G.2.2.1 0), .int a1, .int a2, .int a3] σ r σ' := by
  refine gC_of (by decide) (Nat.le_of_ble_eq_true rfl) ?_
  intro p e s m below meth c hx hb hr ht hown hlk hml hE hP ls hl
  have hS : va_S (gA G) s.heap s.heap [] := va_S.rf
  have hl : lv_has ls 4 [(0, .ref (G.2.2.1 0)), (1, .int a1), (2, .int a2), (3, .int a3)] := hl
  unfold M_X9_settlement at h
  refine lv_aload_n hx hb dX9_settlement_0 rfl (lv_at hl 0 rfl) ?_
  refine lv_iload_n hx hb dX9_settlement_1 rfl (lv_at hl 1 rfl) ?_
  refine lv_iload_n hx hb dX9_settlement_2 rfl (lv_at hl 2 rfl) ?_
  refine lv_iload_n hx hb dX9_settlement_3 rfl (lv_at hl 3 rfl) ?_
  obtain ⟨r2, σ1, hcr2, h⟩ := g_bd h
  refine g_callV (As := [.int a1, .int a2, .int a3]) (n := 3) hx hb hml hown ht (c_X9_canReckon l G _ _ _ _ hcr2) m_476 m_478 m_1 m_31 m_479 (by decide +kernel) (by decide) gE_0 rfl hE hP hS (fun _ h => h) (fun _ _ h => h) rfl hl.1 rfl (Nat.le_of_ble_eq_true rfl) dX9_settlement_4 ⟨by decide, by decide⟩ ⟨Nat.zero_le _, Nat.zero_le _⟩ (fun H locs hP hS => ?_)
  refine lv_if_ne (tgt := 17) hx hb dX9_settlement_7 (by decide) (fun c3 => ?_) (fun c3 => ?_)
  · have h := g_iff c3 h
    refine lv_aload_n hx hb dX9_settlement_17 rfl (lv_at hl 0 rfl) ?_
    refine lv_aload_n hx hb dX9_settlement_18 rfl (lv_at hl 0 rfl) ?_
    refine g_get hx hb ht hown hE hP (by decide) gE_0 uX9 rfl 2 (by decide) m_333 rfl rfl dX9_settlement_19 ?_
    refine lv_iload_n hx hb dX9_settlement_22 rfl (lv_at hl 1 rfl) ?_
    refine lv_iload_n hx hb dX9_settlement_23 rfl (lv_at hl 2 rfl) ?_
    refine lv_iload_n hx hb dX9_settlement_24 rfl (lv_at hl 3 rfl) ?_
    obtain ⟨r5, σ4, hcr5, h⟩ := g_bd h
    refine g_callV (As := [.int a1, .int a2, .int a3]) (n := 3) hx hb hml hown ht (c_X7_settlementOf l G _ _ _ _ hcr5) m_534 m_535 m_536 m_39 m_537 (by decide +kernel) (by decide) gE_85 rfl hE hP hS (fun _ h => h) (fun _ _ h => h) rfl hl.1 rfl (Nat.le_of_ble_eq_true rfl) dX9_settlement_25 ⟨by decide, by decide⟩ ⟨Nat.zero_le _, Nat.zero_le _⟩ (fun H locs hP hS => ?_)
    obtain ⟨r7, σ6, hcr7, h⟩ := g_bd h
    refine g_callV (As := [.int r5]) (n := 1) hx hb hml hown ht (c_X9_parishOrNone l G _ _ hcr7) m_526 m_528 m_8 m_31 m_529 (by decide +kernel) (by decide) gE_0 rfl hE hP hS (fun _ h => h) (fun _ _ h => h) rfl hl.1 rfl (Nat.le_of_ble_eq_true rfl) dX9_settlement_28 ⟨by decide, by decide⟩ ⟨Nat.zero_le _, Nat.zero_le _⟩ (fun H locs hP hS => ?_)
    exact g_iret hx hb hr hlk hE hP hS h dX9_settlement_31
  · have h := g_ift c3 h
    refine lv_aload_n hx hb dX9_settlement_10 rfl (lv_at hl 0 rfl) ?_
    refine lv_ldc hx hb hown (ht _ m_357) dX9_settlement_11 ?_
    obtain ⟨r9, σ8, hcr9, h⟩ := g_bd h
    refine g_callV (As := [.int (-100001)]) (n := 1) hx hb hml hown ht (c_X9_finding l G _ _ hcr9) m_358 m_360 m_0 m_31 m_361 (by decide +kernel) (by decide) gE_0 rfl hE hP hS (fun _ h => h) (fun _ _ h => h) rfl hl.1 rfl (Nat.le_of_ble_eq_true rfl) dX9_settlement_13 ⟨by decide, by decide⟩ ⟨Nat.zero_le _, Nat.zero_le _⟩ (fun H locs hP hS => ?_)
    exact g_iret hx hb hr hlk hE hP hS h dX9_settlement_16

def M_X9_through (a1 a2 a3 : Int32) (σ : gSt) : gO :=
  gBd (M_X9_canReckon a1 a2 a3 σ) (fun r2 σ1 => if r2 = 0 then (gBd (M_X9_finding (-100001) σ1) (fun r7 σ6 => some (r7, σ6))) else (gBd (M_X7_tellerOf a1 a2 a3 σ1) (fun r5 σ4 => some (r5, σ4))))
set_option maxHeartbeats 4000000 in
set_option maxRecDepth 100000 in
theorem c_X9_through (l : Launch) (G : gPar) (a1 a2 a3 : Int32) (σ : gSt) {r : Int32} {σ' : gSt} (h : M_X9_through a1 a2 a3 σ = some (r, σ')) : gC l G yX9_through cX9_through 4 (some .int) 5 121 [.ref (G.2.2.1 0), .int a1, .int a2, .int a3] σ r σ' := by
  refine gC_of (by decide) (Nat.le_of_ble_eq_true rfl) ?_
  intro p e s m below meth c hx hb hr ht hown hlk hml hE hP ls hl
  have hS : va_S (gA G) s.heap s.heap [] := va_S.rf
  have hl : lv_has ls 4 [(0, .ref (G.2.2.1 0)), (1, .int a1), (2, .int a2), (3, .int a3)] := hl
  unfold M_X9_through at h
  refine lv_aload_n hx hb dX9_through_0 rfl (lv_at hl 0 rfl) ?_
  refine lv_iload_n hx hb dX9_through_1 rfl (lv_at hl 1 rfl) ?_
  refine lv_iload_n hx hb dX9_through_2 rfl (lv_at hl 2 rfl) ?_
  refine lv_iload_n hx hb dX9_through_3 rfl (lv_at hl 3 rfl) ?_
  obtain ⟨r2, σ1, hcr2, h⟩ := g_bd h
  refine g_callV (As := [.int a1, .int a2, .int a3]) (n := 3) hx hb hml hown ht (c_X9_canReckon l G _ _ _ _ hcr2) m_476 m_478 m_1 m_31 m_479 (by decide +kernel) (by decide) gE_0 rfl hE hP hS (fun _ h => h) (fun _ _ h => h) rfl hl.1 rfl (Nat.le_of_ble_eq_true rfl) dX9_through_4 ⟨by decide, by decide⟩ ⟨Nat.zero_le _, Nat.zero_le _⟩ (fun H locs hP hS => ?_)
  refine lv_if_ne (tgt := 17) hx hb dX9_through_7 (by decide) (fun c3 => ?_) (fun c3 => ?_)
  · have h := g_iff c3 h
    refine lv_aload_n hx hb dX9_through_17 rfl (lv_at hl 0 rfl) ?_
    refine g_get hx hb ht hown hE hP (by decide) gE_0 uX9 rfl 2 (by decide) m_333 rfl rfl dX9_through_18 ?_
    refine lv_iload_n hx hb dX9_through_21 rfl (lv_at hl 1 rfl) ?_
    refine lv_iload_n hx hb dX9_through_22 rfl (lv_at hl 2 rfl) ?_
    refine lv_iload_n hx hb dX9_through_23 rfl (lv_at hl 3 rfl) ?_
    obtain ⟨r5, σ4, hcr5, h⟩ := g_bd h
    refine g_callV (As := [.int a1, .int a2, .int a3]) (n := 3) hx hb hml hown ht (c_X7_tellerOf l G _ _ _ _ hcr5) m_546 m_547 m_548 m_39 m_549 (by decide +kernel) (by decide) gE_85 rfl hE hP hS (fun _ h => h) (fun _ _ h => h) rfl hl.1 rfl (Nat.le_of_ble_eq_true rfl) dX9_through_24 ⟨by decide, by decide⟩ ⟨Nat.zero_le _, Nat.zero_le _⟩ (fun H locs hP hS => ?_)
    exact g_iret hx hb hr hlk hE hP hS h dX9_through_27
  · have h := g_ift c3 h
    refine lv_aload_n hx hb dX9_through_10 rfl (lv_at hl 0 rfl) ?_
    refine lv_ldc hx hb hown (ht _ m_357) dX9_through_11 ?_
    obtain ⟨r7, σ6, hcr7, h⟩ := g_bd h
    refine g_callV (As := [.int (-100001)]) (n := 1) hx hb hml hown ht (c_X9_finding l G _ _ hcr7) m_358 m_360 m_0 m_31 m_361 (by decide +kernel) (by decide) gE_0 rfl hE hP hS (fun _ h => h) (fun _ _ h => h) rfl hl.1 rfl (Nat.le_of_ble_eq_true rfl) dX9_through_13 ⟨by decide, by decide⟩ ⟨Nat.zero_le _, Nat.zero_le _⟩ (fun H locs hP hS => ?_)
    exact g_iret hx hb hr hlk hE hP hS h dX9_through_16

def M_X9_could (a1 a2 a3 : Int32) (σ : gSt) : gO :=
  gBd (M_X9_canReckon a1 a2 a3 σ) (fun r2 σ1 => if r2 = 0 then (gBd (M_X9_finding (-100001) σ1) (fun r7 σ6 => some (r7, σ6))) else (gBd (M_X7_couldBe a1 a2 a3 σ1) (fun r5 σ4 => some (r5, σ4))))
set_option maxHeartbeats 4000000 in
set_option maxRecDepth 100000 in
theorem c_X9_could (l : Launch) (G : gPar) (a1 a2 a3 : Int32) (σ : gSt) {r : Int32} {σ' : gSt} (h : M_X9_could a1 a2 a3 σ = some (r, σ')) : gC l G yX9_could cX9_could 4 (some .int) 5 121 [.ref (G.2.2.1 0), .int a1, .int a2, .int a3] σ r σ' := by
  refine gC_of (by decide) (Nat.le_of_ble_eq_true rfl) ?_
  intro p e s m below meth c hx hb hr ht hown hlk hml hE hP ls hl
  have hS : va_S (gA G) s.heap s.heap [] := va_S.rf
  have hl : lv_has ls 4 [(0, .ref (G.2.2.1 0)), (1, .int a1), (2, .int a2), (3, .int a3)] := hl
  unfold M_X9_could at h
  refine lv_aload_n hx hb dX9_could_0 rfl (lv_at hl 0 rfl) ?_
  refine lv_iload_n hx hb dX9_could_1 rfl (lv_at hl 1 rfl) ?_
  refine lv_iload_n hx hb dX9_could_2 rfl (lv_at hl 2 rfl) ?_
  refine lv_iload_n hx hb dX9_could_3 rfl (lv_at hl 3 rfl) ?_
  obtain ⟨r2, σ1, hcr2, h⟩ := g_bd h
  refine g_callV (As := [.int a1, .int a2, .int a3]) (n := 3) hx hb hml hown ht (c_X9_canReckon l G _ _ _ _ hcr2) m_476 m_478 m_1 m_31 m_479 (by decide +kernel) (by decide) gE_0 rfl hE hP hS (fun _ h => h) (fun _ _ h => h) rfl hl.1 rfl (Nat.le_of_ble_eq_true rfl) dX9_could_4 ⟨by decide, by decide⟩ ⟨Nat.zero_le _, Nat.zero_le _⟩ (fun H locs hP hS => ?_)
  refine lv_if_ne (tgt := 17) hx hb dX9_could_7 (by decide) (fun c3 => ?_) (fun c3 => ?_)
  · have h := g_iff c3 h
    refine lv_aload_n hx hb dX9_could_17 rfl (lv_at hl 0 rfl) ?_
    refine g_get hx hb ht hown hE hP (by decide) gE_0 uX9 rfl 2 (by decide) m_333 rfl rfl dX9_could_18 ?_
    refine lv_iload_n hx hb dX9_could_21 rfl (lv_at hl 1 rfl) ?_
    refine lv_iload_n hx hb dX9_could_22 rfl (lv_at hl 2 rfl) ?_
    refine lv_iload_n hx hb dX9_could_23 rfl (lv_at hl 3 rfl) ?_
    obtain ⟨r5, σ4, hcr5, h⟩ := g_bd h
    refine g_callV (As := [.int a1, .int a2, .int a3]) (n := 3) hx hb hml hown ht (c_X7_couldBe l G _ _ _ _ hcr5) m_554 m_555 m_556 m_39 m_557 (by decide +kernel) (by decide) gE_85 rfl hE hP hS (fun _ h => h) (fun _ _ h => h) rfl hl.1 rfl (Nat.le_of_ble_eq_true rfl) dX9_could_24 ⟨by decide, by decide⟩ ⟨Nat.zero_le _, Nat.zero_le _⟩ (fun H locs hP hS => ?_)
    exact g_iret hx hb hr hlk hE hP hS h dX9_could_27
  · have h := g_ift c3 h
    refine lv_aload_n hx hb dX9_could_10 rfl (lv_at hl 0 rfl) ?_
    refine lv_ldc hx hb hown (ht _ m_357) dX9_could_11 ?_
    obtain ⟨r7, σ6, hcr7, h⟩ := g_bd h
    refine g_callV (As := [.int (-100001)]) (n := 1) hx hb hml hown ht (c_X9_finding l G _ _ hcr7) m_358 m_360 m_0 m_31 m_361 (by decide +kernel) (by decide) gE_0 rfl hE hP hS (fun _ h => h) (fun _ _ h => h) rfl hl.1 rfl (Nat.le_of_ble_eq_true rfl) dX9_could_13 ⟨by decide, by decide⟩ ⟨Nat.zero_le _, Nat.zero_le _⟩ (fun H locs hP hS => ?_)
    exact g_iret hx hb hr hlk hE hP hS h dX9_could_16

def M_X9_question (a1 a2 a3 : Int32) (σ : gSt) : gO :=
  gBd (M_X9_canReckon a1 a2 a3 σ) (fun r2 σ1 => if r2 = 0 then (gBd (M_X9_finding (-100001) σ1) (fun r12 σ11 => some (r12, σ11))) else (gBd (M_X1_countDoubted σ1) (fun r5 σ4 => if r5 = 0 then (gBd (M_X9_finding (-100006) σ4) (fun r10 σ9 => some (r10, σ9))) else (gBd (M_X7_bestQuestion a1 a2 a3 σ4) (fun r8 σ7 => some (r8, σ7))))))
set_option maxHeartbeats 4000000 in
set_option maxRecDepth 100000 in
theorem c_X9_question (l : Launch) (G : gPar) (a1 a2 a3 : Int32) (σ : gSt) {r : Int32} {σ' : gSt} (h : M_X9_question a1 a2 a3 σ = some (r, σ')) : gC l G yX9_question cX9_question 4 (some .int) 5 125 [.ref (G.2.2.1 0), .int a1, .int a2, .int a3] σ r σ' := by
  refine gC_of (by decide) (Nat.le_of_ble_eq_true rfl) ?_
  intro p e s m below meth c hx hb hr ht hown hlk hml hE hP ls hl
  have hS : va_S (gA G) s.heap s.heap [] := va_S.rf
  have hl : lv_has ls 4 [(0, .ref (G.2.2.1 0)), (1, .int a1), (2, .int a2), (3, .int a3)] := hl
  unfold M_X9_question at h
  refine lv_aload_n hx hb dX9_question_0 rfl (lv_at hl 0 rfl) ?_
  refine lv_iload_n hx hb dX9_question_1 rfl (lv_at hl 1 rfl) ?_
  refine lv_iload_n hx hb dX9_question_2 rfl (lv_at hl 2 rfl) ?_
  refine lv_iload_n hx hb dX9_question_3 rfl (lv_at hl 3 rfl) ?_
  obtain ⟨r2, σ1, hcr2, h⟩ := g_bd h
  refine g_callV (As := [.int a1, .int a2, .int a3]) (n := 3) hx hb hml hown ht (c_X9_canReckon l G _ _ _ _ hcr2) m_476 m_478 m_1 m_31 m_479 (by decide +kernel) (by decide) gE_0 rfl hE hP hS (fun _ h => h) (fun _ _ h => h) rfl hl.1 rfl (Nat.le_of_ble_eq_true rfl) dX9_question_4 ⟨by decide, by decide⟩ ⟨Nat.zero_le _, Nat.zero_le _⟩ (fun H locs hP hS => ?_)
  refine lv_if_ne (tgt := 17) hx hb dX9_question_7 (by decide) (fun c3 => ?_) (fun c3 => ?_)
  · have h := g_iff c3 h
    refine lv_aload_n hx hb dX9_question_17 rfl (lv_at hl 0 rfl) ?_
    refine g_get hx hb ht hown hE hP (by decide) gE_0 uX9 rfl 0 (by decide) m_331 rfl rfl dX9_question_18 ?_
    refine g_get hx hb ht hown hE hP (by decide) gE_1 uX0 rfl 2 (by decide) m_253 rfl rfl dX9_question_21 ?_
    obtain ⟨r5, σ4, hcr5, h⟩ := g_bd h
    refine g_callV (As := []) (n := 0) hx hb hml hown ht (c_X1_countDoubted l G _ hcr5) m_444 m_445 m_446 m_35 m_447 (by decide +kernel) (by decide) gE_17 rfl hE hP hS (fun _ h => h) (fun _ _ h => h) rfl hl.1 rfl (Nat.le_of_ble_eq_true rfl) dX9_question_24 ⟨by decide, by decide⟩ ⟨Nat.zero_le _, Nat.zero_le _⟩ (fun H locs hP hS => ?_)
    refine lv_if_ne (tgt := 37) hx hb dX9_question_27 (by decide) (fun c6 => ?_) (fun c6 => ?_)
    · have h := g_iff c6 h
      refine lv_aload_n hx hb dX9_question_37 rfl (lv_at hl 0 rfl) ?_
      refine g_get hx hb ht hown hE hP (by decide) gE_0 uX9 rfl 2 (by decide) m_333 rfl rfl dX9_question_38 ?_
      refine lv_iload_n hx hb dX9_question_41 rfl (lv_at hl 1 rfl) ?_
      refine lv_iload_n hx hb dX9_question_42 rfl (lv_at hl 2 rfl) ?_
      refine lv_iload_n hx hb dX9_question_43 rfl (lv_at hl 3 rfl) ?_
      obtain ⟨r8, σ7, hcr8, h⟩ := g_bd h
      refine g_callV (As := [.int a1, .int a2, .int a3]) (n := 3) hx hb hml hown ht (c_X7_bestQuestion l G _ _ _ _ hcr8) m_571 m_572 m_573 m_39 m_574 (by decide +kernel) (by decide) gE_85 rfl hE hP hS (fun _ h => h) (fun _ _ h => h) rfl hl.1 rfl (Nat.le_of_ble_eq_true rfl) dX9_question_44 ⟨by decide, by decide⟩ ⟨Nat.zero_le _, Nat.zero_le _⟩ (fun H locs hP hS => ?_)
      exact g_iret hx hb hr hlk hE hP hS h dX9_question_47
    · have h := g_ift c6 h
      refine lv_aload_n hx hb dX9_question_30 rfl (lv_at hl 0 rfl) ?_
      refine lv_ldc hx hb hown (ht _ m_452) dX9_question_31 ?_
      obtain ⟨r10, σ9, hcr10, h⟩ := g_bd h
      refine g_callV (As := [.int (-100006)]) (n := 1) hx hb hml hown ht (c_X9_finding l G _ _ hcr10) m_358 m_360 m_0 m_31 m_361 (by decide +kernel) (by decide) gE_0 rfl hE hP hS (fun _ h => h) (fun _ _ h => h) rfl hl.1 rfl (Nat.le_of_ble_eq_true rfl) dX9_question_33 ⟨by decide, by decide⟩ ⟨Nat.zero_le _, Nat.zero_le _⟩ (fun H locs hP hS => ?_)
      exact g_iret hx hb hr hlk hE hP hS h dX9_question_36
  · have h := g_ift c3 h
    refine lv_aload_n hx hb dX9_question_10 rfl (lv_at hl 0 rfl) ?_
    refine lv_ldc hx hb hown (ht _ m_357) dX9_question_11 ?_
    obtain ⟨r12, σ11, hcr12, h⟩ := g_bd h
    refine g_callV (As := [.int (-100001)]) (n := 1) hx hb hml hown ht (c_X9_finding l G _ _ hcr12) m_358 m_360 m_0 m_31 m_361 (by decide +kernel) (by decide) gE_0 rfl hE hP hS (fun _ h => h) (fun _ _ h => h) rfl hl.1 rfl (Nat.le_of_ble_eq_true rfl) dX9_question_13 ⟨by decide, by decide⟩ ⟨Nat.zero_le _, Nat.zero_le _⟩ (fun H locs hP hS => ?_)
    exact g_iret hx hb hr hlk hE hP hS h dX9_question_16
