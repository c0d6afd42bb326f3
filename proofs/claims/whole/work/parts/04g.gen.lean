def M_X10_within (a1 a2 a3 : Int32) (σ : gSt) : gO :=
  if a1 < a2 then (some (0, σ)) else (if a3 < a1 then (some (0, σ)) else (some (1, σ)))
set_option maxHeartbeats 4000000 in
set_option maxRecDepth 100000 in
theorem c_X10_within (l : Launch) (G : gPar) (a1 a2 a3 : Int32) (σ : gSt) {r : Int32} {σ' : gSt} (h : M_X10_within a1 a2 a3 σ = some (r, σ')) : gC l G yX10_within cX10_within 3 (some .boolean) 0 0 [.int a1, .int a2, .int a3] σ r σ' := by
  refine gC_of (by decide) (Nat.le_of_ble_eq_true rfl) ?_
  intro p e s m below meth c hx hb hr ht hown hlk hml hE hP ls hl
  have hS : va_S (gA G) s.heap s.heap [] := va_S.rf
  have hl : lv_has ls 3 [(0, .int a1), (1, .int a2), (2, .int a3)] := hl
  unfold M_X10_within at h
  refine lv_iload_n hx hb dX10_within_0 rfl (lv_at hl 0 rfl) ?_
  refine lv_iload_n hx hb dX10_within_1 rfl (lv_at hl 1 rfl) ?_
  refine lv_icmp_lt (tgt := 14) hx hb dX10_within_2 (by decide) (fun c1 => ?_) (fun c1 => ?_)
  · have h := g_ift c1 h
    refine lv_iconst (v := 0) hx hb dX10_within_14 (by decide) ?_
    exact g_zret hx hb hr hlk hE hP hS (by decide) h dX10_within_15
  · have h := g_iff c1 h
    refine lv_iload_n hx hb dX10_within_5 rfl (lv_at hl 0 rfl) ?_
    refine lv_iload_n hx hb dX10_within_6 rfl (lv_at hl 2 rfl) ?_
    refine lv_icmp_gt (tgt := 14) hx hb dX10_within_7 (by decide) (fun c2 => ?_) (fun c2 => ?_)
    · have h := g_ift c2 h
      refine lv_iconst (v := 0) hx hb dX10_within_14 (by decide) ?_
      exact g_zret hx hb hr hlk hE hP hS (by decide) h dX10_within_15
    · have h := g_iff c2 h
      refine lv_iconst (v := 1) hx hb dX10_within_10 (by decide) ?_
      refine lv_goto (tgt := 15) hx hb dX10_within_11 (by decide) ?_
      exact g_zret hx hb hr hlk hE hP hS (by decide) h dX10_within_15

def M_X10_isDay (a1 : Int32) (σ : gSt) : gO :=
  gBd (M_X10_within a1 0 9999 σ) (fun r2 σ1 => gGd (r2 = 0 ∨ r2 = 1) (some (r2, σ1)))
set_option maxHeartbeats 4000000 in
set_option maxRecDepth 100000 in
theorem c_X10_isDay (l : Launch) (G : gPar) (a1 : Int32) (σ : gSt) {r : Int32} {σ' : gSt} (h : M_X10_isDay a1 σ = some (r, σ')) : gC l G yX10_isDay cX10_isDay 1 (some .boolean) 1 22 [.int a1] σ r σ' := by
  refine gC_of (by decide) (Nat.le_of_ble_eq_true rfl) ?_
  intro p e s m below meth c hx hb hr ht hown hlk hml hE hP ls hl
  have hS : va_S (gA G) s.heap s.heap [] := va_S.rf
  have hl : lv_has ls 1 [(0, .int a1)] := hl
  unfold M_X10_isDay at h
  refine lv_iload_n hx hb dX10_isDay_0 rfl (lv_at hl 0 rfl) ?_
  refine lv_iconst (v := 0) hx hb dX10_isDay_1 (by decide) ?_
  refine lv_sipush (v := 9999) hx hb dX10_isDay_2 (by decide) ?_
  obtain ⟨r2, σ1, hcr2, h⟩ := g_bd h
  refine g_callS (As := [.int a1, .int 0, .int 9999]) (n := 3) hx hb hml hown ht (c_X10_within l G _ _ _ _ hcr2) m_834 m_835 m_41 m_836 (by decide +kernel) hE hP hS (fun _ h => h) (fun _ _ h => h) rfl hl.1 rfl (Nat.le_of_ble_eq_true rfl) dX10_isDay_5 ⟨by decide, by decide⟩ ⟨Nat.zero_le _, Nat.zero_le _⟩ (fun H locs hP hS => ?_)
  obtain ⟨z3, h⟩ := g_gd h
  exact g_zret hx hb hr hlk hE hP hS z3 h dX10_isDay_8

def M_X10_isWeek (a1 : Int32) (σ : gSt) : gO :=
  gBd (M_X10_within a1 0 59 σ) (fun r2 σ1 => gGd (r2 = 0 ∨ r2 = 1) (some (r2, σ1)))
set_option maxHeartbeats 4000000 in
set_option maxRecDepth 100000 in
theorem c_X10_isWeek (l : Launch) (G : gPar) (a1 : Int32) (σ : gSt) {r : Int32} {σ' : gSt} (h : M_X10_isWeek a1 σ = some (r, σ')) : gC l G yX10_isWeek cX10_isWeek 1 (some .boolean) 1 22 [.int a1] σ r σ' := by
  refine gC_of (by decide) (Nat.le_of_ble_eq_true rfl) ?_
  intro p e s m below meth c hx hb hr ht hown hlk hml hE hP ls hl
  have hS : va_S (gA G) s.heap s.heap [] := va_S.rf
  have hl : lv_has ls 1 [(0, .int a1)] := hl
  unfold M_X10_isWeek at h
  refine lv_iload_n hx hb dX10_isWeek_0 rfl (lv_at hl 0 rfl) ?_
  refine lv_iconst (v := 0) hx hb dX10_isWeek_1 (by decide) ?_
  refine lv_bipush (v := 59) hx hb dX10_isWeek_2 (by decide) ?_
  obtain ⟨r2, σ1, hcr2, h⟩ := g_bd h
  refine g_callS (As := [.int a1, .int 0, .int 59]) (n := 3) hx hb hml hown ht (c_X10_within l G _ _ _ _ hcr2) m_834 m_835 m_41 m_836 (by decide +kernel) hE hP hS (fun _ h => h) (fun _ _ h => h) rfl hl.1 rfl (Nat.le_of_ble_eq_true rfl) dX10_isWeek_4 ⟨by decide, by decide⟩ ⟨Nat.zero_le _, Nat.zero_le _⟩ (fun H locs hP hS => ?_)
  obtain ⟨z3, h⟩ := g_gd h
  exact g_zret hx hb hr hlk hE hP hS z3 h dX10_isWeek_7

def M_X10_finding (a1 : Int32) (σ : gSt) : gO :=
  gNm (gUp σ 101 3 ((σ 101 3) + 1)) (fun σ1 => some (a1, σ1))
set_option maxHeartbeats 4000000 in
set_option maxRecDepth 100000 in
theorem c_X10_finding (l : Launch) (G : gPar) (a1 : Int32) (σ : gSt) {r : Int32} {σ' : gSt} (h : M_X10_finding a1 σ = some (r, σ')) : gC l G yX10_finding cX10_finding 2 (some .int) 0 0 [.ref (G.2.2.1 101), .int a1] σ r σ' := by
  refine gC_of (by decide) (Nat.le_of_ble_eq_true rfl) ?_
  intro p e s m below meth c hx hb hr ht hown hlk hml hE hP ls hl
  have hS : va_S (gA G) s.heap s.heap [] := va_S.rf
  have hl : lv_has ls 2 [(0, .ref (G.2.2.1 101)), (1, .int a1)] := hl
  unfold M_X10_finding at h
  refine lv_aload_n hx hb dX10_finding_0 rfl (lv_at hl 0 rfl) ?_
  refine lv_dup hx hb dX10_finding_1 rfl ?_
  refine g_get hx hb ht hown hE hP (by decide) gE_101 uX10 rfl 3 (by decide) m_793 rfl rfl dX10_finding_2 ?_
  refine lv_iconst (v := 1) hx hb dX10_finding_5 (by decide) ?_
  refine lv_iadd hx hb dX10_finding_6 ?_
  refine g_put hx hb ht hown hE hP hS (by decide) gE_101 uX10 tyX10_ok nmX10 rfl 3 (by decide) m_793 rfl rfl rfl rfl rfl (Nat.le_of_ble_eq_true rfl) rfl dX10_finding_7 (fun H locs σ1 eσ1 hP hS => ?_)
  have h := g_nm eσ1 h
  refine lv_iload_n hx hb dX10_finding_10 rfl (lv_at hl 1 rfl) ?_
  exact g_iret hx hb hr hlk hE hP hS h dX10_finding_11

def M_X10_isParish (a1 : Int32) (σ : gSt) : gO :=
  gIx 549 0 (gBd (M_X10_within a1 0 ((σ 102 (0 : Int32).toNatClampNeg) - 1) σ) (fun r3 σ2 => gGd (r3 = 0 ∨ r3 = 1) (some (r3, σ2))))
set_option maxHeartbeats 4000000 in
set_option maxRecDepth 100000 in
theorem c_X10_isParish (l : Launch) (G : gPar) (a1 : Int32) (σ : gSt) {r : Int32} {σ' : gSt} (h : M_X10_isParish a1 σ = some (r, σ')) : gC l G yX10_isParish cX10_isParish 2 (some .boolean) 1 22 [.ref (G.2.2.1 101), .int a1] σ r σ' := by
  refine gC_of (by decide) (Nat.le_of_ble_eq_true rfl) ?_
  intro p e s m below meth c hx hb hr ht hown hlk hml hE hP ls hl
  have hS : va_S (gA G) s.heap s.heap [] := va_S.rf
  have hl : lv_has ls 2 [(0, .ref (G.2.2.1 101)), (1, .int a1)] := hl
  unfold M_X10_isParish at h
  refine lv_iload_n hx hb dX10_isParish_0 rfl (lv_at hl 1 rfl) ?_
  refine lv_iconst (v := 0) hx hb dX10_isParish_1 (by decide) ?_
  refine lv_aload_n hx hb dX10_isParish_2 rfl (lv_at hl 0 rfl) ?_
  refine g_get hx hb ht hown hE hP (by decide) gE_101 uX10 rfl 0 (by decide) m_790 rfl rfl dX10_isParish_3 ?_
  refine lv_iconst (v := 0) hx hb dX10_isParish_6 (by decide) ?_
  obtain ⟨i1, h⟩ := g_ix h
  refine g_iald hx hb hE hP (by decide) rfl (by decide) i1 dX10_isParish_7 ?_
  refine lv_iconst (v := 1) hx hb dX10_isParish_8 (by decide) ?_
  refine lv_isub hx hb dX10_isParish_9 ?_
  obtain ⟨r3, σ2, hcr3, h⟩ := g_bd h
  refine g_callS (As := [.int a1, .int 0, .int ((σ 102 (0 : Int32).toNatClampNeg) - 1)]) (n := 3) hx hb hml hown ht (c_X10_within l G _ _ _ _ hcr3) m_834 m_835 m_41 m_836 (by decide +kernel) hE hP hS (fun _ h => h) (fun _ _ h => h) rfl hl.1 rfl (Nat.le_of_ble_eq_true rfl) dX10_isParish_10 ⟨by decide, by decide⟩ ⟨Nat.zero_le _, Nat.zero_le _⟩ (fun H locs hP hS => ?_)
  obtain ⟨z4, h⟩ := g_gd h
  exact g_zret hx hb hr hlk hE hP hS z4 h dX10_isParish_13

def M_X10_isPerson (a1 : Int32) (σ : gSt) : gO :=
  gIx 549 1 (gBd (M_X10_within a1 0 ((σ 102 (1 : Int32).toNatClampNeg) - 1) σ) (fun r3 σ2 => gGd (r3 = 0 ∨ r3 = 1) (some (r3, σ2))))
set_option maxHeartbeats 4000000 in
set_option maxRecDepth 100000 in
theorem c_X10_isPerson (l : Launch) (G : gPar) (a1 : Int32) (σ : gSt) {r : Int32} {σ' : gSt} (h : M_X10_isPerson a1 σ = some (r, σ')) : gC l G yX10_isPerson cX10_isPerson 2 (some .boolean) 1 22 [.ref (G.2.2.1 101), .int a1] σ r σ' := by
  refine gC_of (by decide) (Nat.le_of_ble_eq_true rfl) ?_
  intro p e s m below meth c hx hb hr ht hown hlk hml hE hP ls hl
  have hS : va_S (gA G) s.heap s.heap [] := va_S.rf
  have hl : lv_has ls 2 [(0, .ref (G.2.2.1 101)), (1, .int a1)] := hl
  unfold M_X10_isPerson at h
  refine lv_iload_n hx hb dX10_isPerson_0 rfl (lv_at hl 1 rfl) ?_
  refine lv_iconst (v := 0) hx hb dX10_isPerson_1 (by decide) ?_
  refine lv_aload_n hx hb dX10_isPerson_2 rfl (lv_at hl 0 rfl) ?_
  refine g_get hx hb ht hown hE hP (by decide) gE_101 uX10 rfl 0 (by decide) m_790 rfl rfl dX10_isPerson_3 ?_
  refine lv_iconst (v := 1) hx hb dX10_isPerson_6 (by decide) ?_
  obtain ⟨i1, h⟩ := g_ix h
  refine g_iald hx hb hE hP (by decide) rfl (by decide) i1 dX10_isPerson_7 ?_
  refine lv_iconst (v := 1) hx hb dX10_isPerson_8 (by decide) ?_
  refine lv_isub hx hb dX10_isPerson_9 ?_
  obtain ⟨r3, σ2, hcr3, h⟩ := g_bd h
  refine g_callS (As := [.int a1, .int 0, .int ((σ 102 (1 : Int32).toNatClampNeg) - 1)]) (n := 3) hx hb hml hown ht (c_X10_within l G _ _ _ _ hcr3) m_834 m_835 m_41 m_836 (by decide +kernel) hE hP hS (fun _ h => h) (fun _ _ h => h) rfl hl.1 rfl (Nat.le_of_ble_eq_true rfl) dX10_isPerson_10 ⟨by decide, by decide⟩ ⟨Nat.zero_le _, Nat.zero_le _⟩ (fun H locs hP hS => ?_)
  obtain ⟨z4, h⟩ := g_gd h
  exact g_zret hx hb hr hlk hE hP hS z4 h dX10_isPerson_13

def M_X10_parish (a1 : Int32) (σ : gSt) : gO :=
  gBd (M_X10_within a1 0 10000 σ) (fun r2 σ1 => if r2 = 0 then (gBd (M_X10_finding (-100001) σ1) (fun r15 σ14 => some (r15, σ14))) else (gIx 549 0 (gNm ((σ1 102 (0 : Int32).toNatClampNeg) : Int32) (fun x5 => if x5 = 6 then (gBd (M_X10_finding (-100005) σ1) (fun r13 σ12 => some (r13, σ12))) else (gIx 549 ((7 : Int32) + x5) (gNm (gUp σ1 102 ((7 : Int32) + x5).toNatClampNeg a1) (fun σ8 => gIx 549 0 (gIx 549 0 (gNm (gUp σ8 102 (0 : Int32).toNatClampNeg ((σ8 102 (0 : Int32).toNatClampNeg) + 1)) (fun σ11 => some (x5, σ11)))))))))))
set_option maxHeartbeats 4000000 in
set_option maxRecDepth 100000 in
theorem c_X10_parish (l : Launch) (G : gPar) (a1 : Int32) (σ : gSt) {r : Int32} {σ' : gSt} (h : M_X10_parish a1 σ = some (r, σ')) : gC l G yX10_parish cX10_parish 3 (some .int) 1 22 [.ref (G.2.2.1 101), .int a1] σ r σ' := by
  refine gC_of (by decide) (Nat.le_of_ble_eq_true rfl) ?_
  intro p e s m below meth c hx hb hr ht hown hlk hml hE hP ls hl
  have hS : va_S (gA G) s.heap s.heap [] := va_S.rf
  have hl : lv_has ls 3 [(0, .ref (G.2.2.1 101)), (1, .int a1)] := hl
  unfold M_X10_parish at h
  refine lv_iload_n hx hb dX10_parish_0 rfl (lv_at hl 1 rfl) ?_
  refine lv_iconst (v := 0) hx hb dX10_parish_1 (by decide) ?_
  refine lv_sipush (v := 10000) hx hb dX10_parish_2 (by decide) ?_
  obtain ⟨r2, σ1, hcr2, h⟩ := g_bd h
  refine g_callS (As := [.int a1, .int 0, .int 10000]) (n := 3) hx hb hml hown ht (c_X10_within l G _ _ _ _ hcr2) m_834 m_835 m_41 m_836 (by decide +kernel) hE hP hS (fun _ h => h) (fun _ _ h => h) rfl hl.1 rfl (Nat.le_of_ble_eq_true rfl) dX10_parish_5 ⟨by decide, by decide⟩ ⟨Nat.zero_le _, Nat.zero_le _⟩ (fun H locs hP hS => ?_)
  refine lv_if_ne (tgt := 18) hx hb dX10_parish_8 (by decide) (fun c3 => ?_) (fun c3 => ?_)
  · have h := g_iff c3 h
    refine lv_aload_n hx hb dX10_parish_18 rfl (lv_at hl 0 rfl) ?_
    refine g_get hx hb ht hown hE hP (by decide) gE_101 uX10 rfl 0 (by decide) m_790 rfl rfl dX10_parish_19 ?_
    refine lv_iconst (v := 0) hx hb dX10_parish_22 (by decide) ?_
    obtain ⟨i4, h⟩ := g_ix h
    refine g_iald hx hb hE hP (by decide) rfl (by decide) i4 dX10_parish_23 ?_
    refine lv_topi (fun x5 ex5 => ?_)
    have h := g_nm ex5 h
    refine lv_istore_n (lv' := [(2, .int x5), (0, .ref (G.2.2.1 101)), (1, .int a1)]) hx hb dX10_parish_24 rfl hl (by decide) rfl (fun ls hl => ?_)
    refine lv_iload_n hx hb dX10_parish_25 rfl (lv_at hl 0 rfl) ?_
    refine lv_bipush (v := 6) hx hb dX10_parish_26 (by decide) ?_
    refine lv_icmp_ne (tgt := 38) hx hb dX10_parish_28 (by decide) (fun c6 => ?_) (fun c6 => ?_)
    · have h := g_iff c6 h
      refine lv_aload_n hx hb dX10_parish_38 rfl (lv_at hl 1 rfl) ?_
      refine g_get hx hb ht hown hE hP (by decide) gE_101 uX10 rfl 0 (by decide) m_790 rfl rfl dX10_parish_39 ?_
      refine lv_bipush (v := 7) hx hb dX10_parish_42 (by decide) ?_
      refine lv_iload_n hx hb dX10_parish_44 rfl (lv_at hl 0 rfl) ?_
      refine lv_iadd hx hb dX10_parish_45 ?_
      refine lv_iload_n hx hb dX10_parish_46 rfl (lv_at hl 2 rfl) ?_
      obtain ⟨i7, h⟩ := g_ix h
      refine g_iast hx hb hE hP hS (by decide) rfl (by decide) i7 dX10_parish_47 (fun H locs σ8 eσ8 hP hS => ?_)
      have h := g_nm eσ8 h
      refine lv_aload_n hx hb dX10_parish_48 rfl (lv_at hl 1 rfl) ?_
      refine g_get hx hb ht hown hE hP (by decide) gE_101 uX10 rfl 0 (by decide) m_790 rfl rfl dX10_parish_49 ?_
      refine lv_iconst (v := 0) hx hb dX10_parish_52 (by decide) ?_
      refine lv_dup2_11 hx hb dX10_parish_53 rfl rfl ?_
      obtain ⟨i9, h⟩ := g_ix h
      refine g_iald hx hb hE hP (by decide) rfl (by decide) i9 dX10_parish_54 ?_
      refine lv_iconst (v := 1) hx hb dX10_parish_55 (by decide) ?_
      refine lv_iadd hx hb dX10_parish_56 ?_
      obtain ⟨i10, h⟩ := g_ix h
      refine g_iast hx hb hE hP hS (by decide) rfl (by decide) i10 dX10_parish_57 (fun H locs σ11 eσ11 hP hS => ?_)
      have h := g_nm eσ11 h
      refine lv_iload_n hx hb dX10_parish_58 rfl (lv_at hl 0 rfl) ?_
      exact g_iret hx hb hr hlk hE hP hS h dX10_parish_59
    · have h := g_ift c6 h
      refine lv_aload_n hx hb dX10_parish_31 rfl (lv_at hl 1 rfl) ?_
      refine lv_ldc hx hb hown (ht _ m_842) dX10_parish_32 ?_
      obtain ⟨r13, σ12, hcr13, h⟩ := g_bd h
      refine g_callV (As := [.int (-100005)]) (n := 1) hx hb hml hown ht (c_X10_finding l G _ _ hcr13) m_838 m_840 m_14 m_41 m_841 (by decide +kernel) (by decide) gE_101 rfl hE hP hS (fun _ h => h) (fun _ _ h => h) rfl hl.1 rfl (Nat.le_of_ble_eq_true rfl) dX10_parish_34 ⟨by decide, by decide⟩ ⟨Nat.zero_le _, Nat.zero_le _⟩ (fun H locs hP hS => ?_)
      exact g_iret hx hb hr hlk hE hP hS h dX10_parish_37
  · have h := g_ift c3 h
    refine lv_aload_n hx hb dX10_parish_11 rfl (lv_at hl 0 rfl) ?_
    refine lv_ldc hx hb hown (ht _ m_837) dX10_parish_12 ?_
    obtain ⟨r15, σ14, hcr15, h⟩ := g_bd h
    refine g_callV (As := [.int (-100001)]) (n := 1) hx hb hml hown ht (c_X10_finding l G _ _ hcr15) m_838 m_840 m_14 m_41 m_841 (by decide +kernel) (by decide) gE_101 rfl hE hP hS (fun _ h => h) (fun _ _ h => h) rfl hl.1 rfl (Nat.le_of_ble_eq_true rfl) dX10_parish_14 ⟨by decide, by decide⟩ ⟨Nat.zero_le _, Nat.zero_le _⟩ (fun H locs hP hS => ?_)
    exact g_iret hx hb hr hlk hE hP hS h dX10_parish_17

def M_X10_miles (a1 a2 a3 : Int32) (σ : gSt) : gO :=
  gBd (M_X10_isParish a1 σ) (fun r2 σ1 => if r2 = 0 then (gBd (M_X10_finding (-100001) σ1) (fun r5 σ4 => some (r5, σ4))) else (gBd (M_X10_isParish a2 σ1) (fun r7 σ6 => if r7 = 0 then (gBd (M_X10_finding (-100001) σ6) (fun r10 σ9 => some (r10, σ9))) else (gBd (M_X10_within a3 0 99 σ6) (fun r12 σ11 => if r12 = 0 then (gBd (M_X10_finding (-100001) σ11) (fun r24 σ23 => some (r24, σ23))) else (if a1 = a2 then (gBd (M_X10_finding (-100003) σ11) (fun r22 σ21 => some (r22, σ21))) else (gIx 549 (((13 : Int32) + ((6 : Int32) * a1)) + a2) (gNm ((σ11 102 (((13 : Int32) + ((6 : Int32) * a1)) + a2).toNatClampNeg) : Int32) (fun x16 => gIx 549 (((13 : Int32) + ((6 : Int32) * a1)) + a2) (gNm (gUp σ11 102 (((13 : Int32) + ((6 : Int32) * a1)) + a2).toNatClampNeg a3) (fun σ18 => gIx 549 (((13 : Int32) + ((6 : Int32) * a2)) + a1) (gNm (gUp σ18 102 (((13 : Int32) + ((6 : Int32) * a2)) + a1).toNatClampNeg a3) (fun σ20 => some (x16, σ20))))))))))))))
set_option maxHeartbeats 4000000 in
set_option maxRecDepth 100000 in
theorem c_X10_miles (l : Launch) (G : gPar) (a1 a2 a3 : Int32) (σ : gSt) {r : Int32} {σ' : gSt} (h : M_X10_miles a1 a2 a3 σ = some (r, σ')) : gC l G yX10_miles cX10_miles 5 (some .int) 2 43 [.ref (G.2.2.1 101), .int a1, .int a2, .int a3] σ r σ' := by
  refine gC_of (by decide) (Nat.le_of_ble_eq_true rfl) ?_
  intro p e s m below meth c hx hb hr ht hown hlk hml hE hP ls hl
  have hS : va_S (gA G) s.heap s.heap [] := va_S.rf
  have hl : lv_has ls 5 [(0, .ref (G.2.2.1 101)), (1, .int a1), (2, .int a2), (3, .int a3)] := hl
  unfold M_X10_miles at h
  refine lv_aload_n hx hb dX10_miles_0 rfl (lv_at hl 0 rfl) ?_
  refine lv_iload_n hx hb dX10_miles_1 rfl (lv_at hl 1 rfl) ?_
  obtain ⟨r2, σ1, hcr2, h⟩ := g_bd h
  refine g_callV (As := [.int a1]) (n := 1) hx hb hml hown ht (c_X10_isParish l G _ _ hcr2) m_847 m_849 m_15 m_41 m_850 (by decide +kernel) (by decide) gE_101 rfl hE hP hS (fun _ h => h) (fun _ _ h => h) rfl hl.1 rfl (Nat.le_of_ble_eq_true rfl) dX10_miles_2 ⟨by decide, by decide⟩ ⟨Nat.zero_le _, Nat.zero_le _⟩ (fun H locs hP hS => ?_)
  refine lv_if_eq (tgt := 26) hx hb dX10_miles_5 (by decide) (fun c3 => ?_) (fun c3 => ?_)
  · have h := g_ift c3 h
    refine lv_aload_n hx hb dX10_miles_26 rfl (lv_at hl 0 rfl) ?_
    refine lv_ldc hx hb hown (ht _ m_837) dX10_miles_27 ?_
    obtain ⟨r5, σ4, hcr5, h⟩ := g_bd h
    refine g_callV (As := [.int (-100001)]) (n := 1) hx hb hml hown ht (c_X10_finding l G _ _ hcr5) m_838 m_840 m_14 m_41 m_841 (by decide +kernel) (by decide) gE_101 rfl hE hP hS (fun _ h => h) (fun _ _ h => h) rfl hl.1 rfl (Nat.le_of_ble_eq_true rfl) dX10_miles_29 ⟨by decide, by decide⟩ ⟨Nat.zero_le _, Nat.zero_le _⟩ (fun H locs hP hS => ?_)
    exact g_iret hx hb hr hlk hE hP hS h dX10_miles_32
  · have h := g_iff c3 h
    refine lv_aload_n hx hb dX10_miles_8 rfl (lv_at hl 0 rfl) ?_
    refine lv_iload_n hx hb dX10_miles_9 rfl (lv_at hl 2 rfl) ?_
    obtain ⟨r7, σ6, hcr7, h⟩ := g_bd h
    refine g_callV (As := [.int a2]) (n := 1) hx hb hml hown ht (c_X10_isParish l G _ _ hcr7) m_847 m_849 m_15 m_41 m_850 (by decide +kernel) (by decide) gE_101 rfl hE hP hS (fun _ h => h) (fun _ _ h => h) rfl hl.1 rfl (Nat.le_of_ble_eq_true rfl) dX10_miles_10 ⟨by decide, by decide⟩ ⟨Nat.zero_le _, Nat.zero_le _⟩ (fun H locs hP hS => ?_)
    refine lv_if_eq (tgt := 26) hx hb dX10_miles_13 (by decide) (fun c8 => ?_) (fun c8 => ?_)
    · have h := g_ift c8 h
      refine lv_aload_n hx hb dX10_miles_26 rfl (lv_at hl 0 rfl) ?_
      refine lv_ldc hx hb hown (ht _ m_837) dX10_miles_27 ?_
      obtain ⟨r10, σ9, hcr10, h⟩ := g_bd h
      refine g_callV (As := [.int (-100001)]) (n := 1) hx hb hml hown ht (c_X10_finding l G _ _ hcr10) m_838 m_840 m_14 m_41 m_841 (by decide +kernel) (by decide) gE_101 rfl hE hP hS (fun _ h => h) (fun _ _ h => h) rfl hl.1 rfl (Nat.le_of_ble_eq_true rfl) dX10_miles_29 ⟨by decide, by decide⟩ ⟨Nat.zero_le _, Nat.zero_le _⟩ (fun H locs hP hS => ?_)
      exact g_iret hx hb hr hlk hE hP hS h dX10_miles_32
    · have h := g_iff c8 h
      refine lv_iload_n hx hb dX10_miles_16 rfl (lv_at hl 3 rfl) ?_
      refine lv_iconst (v := 0) hx hb dX10_miles_17 (by decide) ?_
      refine lv_bipush (v := 99) hx hb dX10_miles_18 (by decide) ?_
      obtain ⟨r12, σ11, hcr12, h⟩ := g_bd h
      refine g_callS (As := [.int a3, .int 0, .int 99]) (n := 3) hx hb hml hown ht (c_X10_within l G _ _ _ _ hcr12) m_834 m_835 m_41 m_836 (by decide +kernel) hE hP hS (fun _ h => h) (fun _ _ h => h) rfl hl.1 rfl (Nat.le_of_ble_eq_true rfl) dX10_miles_20 ⟨by decide, by decide⟩ ⟨Nat.zero_le _, Nat.zero_le _⟩ (fun H locs hP hS => ?_)
      refine lv_if_ne (tgt := 33) hx hb dX10_miles_23 (by decide) (fun c13 => ?_) (fun c13 => ?_)
      · have h := g_iff c13 h
        refine lv_iload_n hx hb dX10_miles_33 rfl (lv_at hl 1 rfl) ?_
        refine lv_iload_n hx hb dX10_miles_34 rfl (lv_at hl 2 rfl) ?_
        refine lv_icmp_ne (tgt := 45) hx hb dX10_miles_35 (by decide) (fun c14 => ?_) (fun c14 => ?_)
        · have h := g_iff c14 h
          refine lv_aload_n hx hb dX10_miles_45 rfl (lv_at hl 0 rfl) ?_
          refine g_get hx hb ht hown hE hP (by decide) gE_101 uX10 rfl 0 (by decide) m_790 rfl rfl dX10_miles_46 ?_
          refine lv_bipush (v := 13) hx hb dX10_miles_49 (by decide) ?_
          refine lv_bipush (v := 6) hx hb dX10_miles_51 (by decide) ?_
          refine lv_iload_n hx hb dX10_miles_53 rfl (lv_at hl 1 rfl) ?_
          refine lv_imul hx hb dX10_miles_54 ?_
          refine lv_iadd hx hb dX10_miles_55 ?_
          refine lv_iload_n hx hb dX10_miles_56 rfl (lv_at hl 2 rfl) ?_
          refine lv_iadd hx hb dX10_miles_57 ?_
          obtain ⟨i15, h⟩ := g_ix h
          refine g_iald hx hb hE hP (by decide) rfl (by decide) i15 dX10_miles_58 ?_
          refine lv_topi (fun x16 ex16 => ?_)
          have h := g_nm ex16 h
          refine lv_istore (lv' := [(4, .int x16), (0, .ref (G.2.2.1 101)), (1, .int a1), (2, .int a2), (3, .int a3)]) hx hb dX10_miles_59 hl (by decide) rfl (fun ls hl => ?_)
          refine lv_aload_n hx hb dX10_miles_61 rfl (lv_at hl 1 rfl) ?_
          refine g_get hx hb ht hown hE hP (by decide) gE_101 uX10 rfl 0 (by decide) m_790 rfl rfl dX10_miles_62 ?_
          refine lv_bipush (v := 13) hx hb dX10_miles_65 (by decide) ?_
          refine lv_bipush (v := 6) hx hb dX10_miles_67 (by decide) ?_
          refine lv_iload_n hx hb dX10_miles_69 rfl (lv_at hl 2 rfl) ?_
          refine lv_imul hx hb dX10_miles_70 ?_
          refine lv_iadd hx hb dX10_miles_71 ?_
          refine lv_iload_n hx hb dX10_miles_72 rfl (lv_at hl 3 rfl) ?_
          refine lv_iadd hx hb dX10_miles_73 ?_
          refine lv_iload_n hx hb dX10_miles_74 rfl (lv_at hl 4 rfl) ?_
          obtain ⟨i17, h⟩ := g_ix h
          refine g_iast hx hb hE hP hS (by decide) rfl (by decide) i17 dX10_miles_75 (fun H locs σ18 eσ18 hP hS => ?_)
          have h := g_nm eσ18 h
          refine lv_aload_n hx hb dX10_miles_76 rfl (lv_at hl 1 rfl) ?_
          refine g_get hx hb ht hown hE hP (by decide) gE_101 uX10 rfl 0 (by decide) m_790 rfl rfl dX10_miles_77 ?_
          refine lv_bipush (v := 13) hx hb dX10_miles_80 (by decide) ?_
          refine lv_bipush (v := 6) hx hb dX10_miles_82 (by decide) ?_
          refine lv_iload_n hx hb dX10_miles_84 rfl (lv_at hl 3 rfl) ?_
          refine lv_imul hx hb dX10_miles_85 ?_
          refine lv_iadd hx hb dX10_miles_86 ?_
          refine lv_iload_n hx hb dX10_miles_87 rfl (lv_at hl 2 rfl) ?_
          refine lv_iadd hx hb dX10_miles_88 ?_
          refine lv_iload_n hx hb dX10_miles_89 rfl (lv_at hl 4 rfl) ?_
          obtain ⟨i19, h⟩ := g_ix h
          refine g_iast hx hb hE hP hS (by decide) rfl (by decide) i19 dX10_miles_90 (fun H locs σ20 eσ20 hP hS => ?_)
          have h := g_nm eσ20 h
          refine lv_iload hx hb dX10_miles_91 (lv_at hl 0 rfl) ?_
          exact g_iret hx hb hr hlk hE hP hS h dX10_miles_93
        · have h := g_ift c14 h
          refine lv_aload_n hx hb dX10_miles_38 rfl (lv_at hl 0 rfl) ?_
          refine lv_ldc hx hb hown (ht _ m_851) dX10_miles_39 ?_
          obtain ⟨r22, σ21, hcr22, h⟩ := g_bd h
          refine g_callV (As := [.int (-100003)]) (n := 1) hx hb hml hown ht (c_X10_finding l G _ _ hcr22) m_838 m_840 m_14 m_41 m_841 (by decide +kernel) (by decide) gE_101 rfl hE hP hS (fun _ h => h) (fun _ _ h => h) rfl hl.1 rfl (Nat.le_of_ble_eq_true rfl) dX10_miles_41 ⟨by decide, by decide⟩ ⟨Nat.zero_le _, Nat.zero_le _⟩ (fun H locs hP hS => ?_)
          exact g_iret hx hb hr hlk hE hP hS h dX10_miles_44
      · have h := g_ift c13 h
        refine lv_aload_n hx hb dX10_miles_26 rfl (lv_at hl 0 rfl) ?_
        refine lv_ldc hx hb hown (ht _ m_837) dX10_miles_27 ?_
        obtain ⟨r24, σ23, hcr24, h⟩ := g_bd h
        refine g_callV (As := [.int (-100001)]) (n := 1) hx hb hml hown ht (c_X10_finding l G _ _ hcr24) m_838 m_840 m_14 m_41 m_841 (by decide +kernel) (by decide) gE_101 rfl hE hP hS (fun _ h => h) (fun _ _ h => h) rfl hl.1 rfl (Nat.le_of_ble_eq_true rfl) dX10_miles_29 ⟨by decide, by decide⟩ ⟨Nat.zero_le _, Nat.zero_le _⟩ (fun H locs hP hS => ?_)
        exact g_iret hx hb hr hlk hE hP hS h dX10_miles_32

def M_X10_person (a1 a2 a3 : Int32) (σ : gSt) : gO :=
  gBd (M_X10_within a1 0 3 σ) (fun r2 σ1 => if r2 = 0 then (gBd (M_X10_finding (-100001) σ1) (fun r5 σ4 => some (r5, σ4))) else (gBd (M_X10_isParish a2 σ1) (fun r7 σ6 => if r7 = 0 then (gBd (M_X10_finding (-100001) σ6) (fun r10 σ9 => some (r10, σ9))) else (gBd (M_X10_isDay a3 σ6) (fun r12 σ11 => if r12 = 0 then (gBd (M_X10_finding (-100001) σ11) (fun r33 σ32 => some (r33, σ32))) else (gIx 549 1 (gNm ((σ11 102 (1 : Int32).toNatClampNeg) : Int32) (fun x15 => if x15 = 10 then (gBd (M_X10_finding (-100005) σ11) (fun r31 σ30 => some (r31, σ30))) else (gIx 549 ((49 : Int32) + x15) (gNm (gUp σ11 102 ((49 : Int32) + x15).toNatClampNeg a1) (fun σ18 => gIx 549 ((59 : Int32) + x15) (gNm (gUp σ18 102 ((59 : Int32) + x15).toNatClampNeg a2) (fun σ20 => gIx 549 ((69 : Int32) + x15) (gNm (gUp σ20 102 ((69 : Int32) + x15).toNatClampNeg a3) (fun σ22 => gIx 549 ((79 : Int32) + x15) (gNm (gUp σ22 102 ((79 : Int32) + x15).toNatClampNeg (-1)) (fun σ24 => gIx 549 ((99 : Int32) + x15) (gNm (gUp σ24 102 ((99 : Int32) + x15).toNatClampNeg (-1)) (fun σ26 => gIx 549 1 (gIx 549 1 (gNm (gUp σ26 102 (1 : Int32).toNatClampNeg ((σ26 102 (1 : Int32).toNatClampNeg) + 1)) (fun σ29 => some (x15, σ29)))))))))))))))))))))))
set_option maxHeartbeats 4000000 in
set_option maxRecDepth 100000 in
theorem c_X10_person (l : Launch) (G : gPar) (a1 a2 a3 : Int32) (σ : gSt) {r : Int32} {σ' : gSt} (h : M_X10_person a1 a2 a3 σ = some (r, σ')) : gC l G yX10_person cX10_person 5 (some .int) 2 43 [.ref (G.2.2.1 101), .int a1, .int a2, .int a3] σ r σ' := by
  refine gC_of (by decide) (Nat.le_of_ble_eq_true rfl) ?_
  intro p e s m below meth c hx hb hr ht hown hlk hml hE hP ls hl
  have hS : va_S (gA G) s.heap s.heap [] := va_S.rf
  have hl : lv_has ls 5 [(0, .ref (G.2.2.1 101)), (1, .int a1), (2, .int a2), (3, .int a3)] := hl
  unfold M_X10_person at h
  refine lv_iload_n hx hb dX10_person_0 rfl (lv_at hl 1 rfl) ?_
  refine lv_iconst (v := 0) hx hb dX10_person_1 (by decide) ?_
  refine lv_iconst (v := 3) hx hb dX10_person_2 (by decide) ?_
  obtain ⟨r2, σ1, hcr2, h⟩ := g_bd h
  refine g_callS (As := [.int a1, .int 0, .int 3]) (n := 3) hx hb hml hown ht (c_X10_within l G _ _ _ _ hcr2) m_834 m_835 m_41 m_836 (by decide +kernel) hE hP hS (fun _ h => h) (fun _ _ h => h) rfl hl.1 rfl (Nat.le_of_ble_eq_true rfl) dX10_person_3 ⟨by decide, by decide⟩ ⟨Nat.zero_le _, Nat.zero_le _⟩ (fun H locs hP hS => ?_)
  refine lv_if_eq (tgt := 24) hx hb dX10_person_6 (by decide) (fun c3 => ?_) (fun c3 => ?_)
  · have h := g_ift c3 h
    refine lv_aload_n hx hb dX10_person_24 rfl (lv_at hl 0 rfl) ?_
    refine lv_ldc hx hb hown (ht _ m_837) dX10_person_25 ?_
    obtain ⟨r5, σ4, hcr5, h⟩ := g_bd h
    refine g_callV (As := [.int (-100001)]) (n := 1) hx hb hml hown ht (c_X10_finding l G _ _ hcr5) m_838 m_840 m_14 m_41 m_841 (by decide +kernel) (by decide) gE_101 rfl hE hP hS (fun _ h => h) (fun _ _ h => h) rfl hl.1 rfl (Nat.le_of_ble_eq_true rfl) dX10_person_27 ⟨by decide, by decide⟩ ⟨Nat.zero_le _, Nat.zero_le _⟩ (fun H locs hP hS => ?_)
    exact g_iret hx hb hr hlk hE hP hS h dX10_person_30
  · have h := g_iff c3 h
    refine lv_aload_n hx hb dX10_person_9 rfl (lv_at hl 0 rfl) ?_
    refine lv_iload_n hx hb dX10_person_10 rfl (lv_at hl 2 rfl) ?_
    obtain ⟨r7, σ6, hcr7, h⟩ := g_bd h
    refine g_callV (As := [.int a2]) (n := 1) hx hb hml hown ht (c_X10_isParish l G _ _ hcr7) m_847 m_849 m_15 m_41 m_850 (by decide +kernel) (by decide) gE_101 rfl hE hP hS (fun _ h => h) (fun _ _ h => h) rfl hl.1 rfl (Nat.le_of_ble_eq_true rfl) dX10_person_11 ⟨by decide, by decide⟩ ⟨Nat.zero_le _, Nat.zero_le _⟩ (fun H locs hP hS => ?_)
    refine lv_if_eq (tgt := 24) hx hb dX10_person_14 (by decide) (fun c8 => ?_) (fun c8 => ?_)
    · have h := g_ift c8 h
      refine lv_aload_n hx hb dX10_person_24 rfl (lv_at hl 0 rfl) ?_
      refine lv_ldc hx hb hown (ht _ m_837) dX10_person_25 ?_
      obtain ⟨r10, σ9, hcr10, h⟩ := g_bd h
      refine g_callV (As := [.int (-100001)]) (n := 1) hx hb hml hown ht (c_X10_finding l G _ _ hcr10) m_838 m_840 m_14 m_41 m_841 (by decide +kernel) (by decide) gE_101 rfl hE hP hS (fun _ h => h) (fun _ _ h => h) rfl hl.1 rfl (Nat.le_of_ble_eq_true rfl) dX10_person_27 ⟨by decide, by decide⟩ ⟨Nat.zero_le _, Nat.zero_le _⟩ (fun H locs hP hS => ?_)
      exact g_iret hx hb hr hlk hE hP hS h dX10_person_30
    · have h := g_iff c8 h
      refine lv_iload_n hx hb dX10_person_17 rfl (lv_at hl 3 rfl) ?_
      obtain ⟨r12, σ11, hcr12, h⟩ := g_bd h
      refine g_callS (As := [.int a3]) (n := 1) hx hb hml hown ht (c_X10_isDay l G _ _ hcr12) m_856 m_857 m_41 m_858 (by decide +kernel) hE hP hS (fun _ h => h) (fun _ _ h => h) rfl hl.1 rfl (Nat.le_of_ble_eq_true rfl) dX10_person_18 ⟨by decide, by decide⟩ ⟨Nat.zero_le _, Nat.zero_le _⟩ (fun H locs hP hS => ?_)
      refine lv_if_ne (tgt := 31) hx hb dX10_person_21 (by decide) (fun c13 => ?_) (fun c13 => ?_)
      · have h := g_iff c13 h
        refine lv_aload_n hx hb dX10_person_31 rfl (lv_at hl 0 rfl) ?_
        refine g_get hx hb ht hown hE hP (by decide) gE_101 uX10 rfl 0 (by decide) m_790 rfl rfl dX10_person_32 ?_
        refine lv_iconst (v := 1) hx hb dX10_person_35 (by decide) ?_
        obtain ⟨i14, h⟩ := g_ix h
        refine g_iald hx hb hE hP (by decide) rfl (by decide) i14 dX10_person_36 ?_
        refine lv_topi (fun x15 ex15 => ?_)
        have h := g_nm ex15 h
        refine lv_istore (lv' := [(4, .int x15), (0, .ref (G.2.2.1 101)), (1, .int a1), (2, .int a2), (3, .int a3)]) hx hb dX10_person_37 hl (by decide) rfl (fun ls hl => ?_)
        refine lv_iload hx hb dX10_person_39 (lv_at hl 0 rfl) ?_
        refine lv_bipush (v := 10) hx hb dX10_person_41 (by decide) ?_
        refine lv_icmp_ne (tgt := 53) hx hb dX10_person_43 (by decide) (fun c16 => ?_) (fun c16 => ?_)
        · have h := g_iff c16 h
          refine lv_aload_n hx hb dX10_person_53 rfl (lv_at hl 1 rfl) ?_
          refine g_get hx hb ht hown hE hP (by decide) gE_101 uX10 rfl 0 (by decide) m_790 rfl rfl dX10_person_54 ?_
          refine lv_bipush (v := 49) hx hb dX10_person_57 (by decide) ?_
          refine lv_iload hx hb dX10_person_59 (lv_at hl 0 rfl) ?_
          refine lv_iadd hx hb dX10_person_61 ?_
          refine lv_iload_n hx hb dX10_person_62 rfl (lv_at hl 2 rfl) ?_
          obtain ⟨i17, h⟩ := g_ix h
          refine g_iast hx hb hE hP hS (by decide) rfl (by decide) i17 dX10_person_63 (fun H locs σ18 eσ18 hP hS => ?_)
          have h := g_nm eσ18 h
          refine lv_aload_n hx hb dX10_person_64 rfl (lv_at hl 1 rfl) ?_
          refine g_get hx hb ht hown hE hP (by decide) gE_101 uX10 rfl 0 (by decide) m_790 rfl rfl dX10_person_65 ?_
          refine lv_bipush (v := 59) hx hb dX10_person_68 (by decide) ?_
          refine lv_iload hx hb dX10_person_70 (lv_at hl 0 rfl) ?_
          refine lv_iadd hx hb dX10_person_72 ?_
          refine lv_iload_n hx hb dX10_person_73 rfl (lv_at hl 3 rfl) ?_
          obtain ⟨i19, h⟩ := g_ix h
          refine g_iast hx hb hE hP hS (by decide) rfl (by decide) i19 dX10_person_74 (fun H locs σ20 eσ20 hP hS => ?_)
          have h := g_nm eσ20 h
          refine lv_aload_n hx hb dX10_person_75 rfl (lv_at hl 1 rfl) ?_
          refine g_get hx hb ht hown hE hP (by decide) gE_101 uX10 rfl 0 (by decide) m_790 rfl rfl dX10_person_76 ?_
          refine lv_bipush (v := 69) hx hb dX10_person_79 (by decide) ?_
          refine lv_iload hx hb dX10_person_81 (lv_at hl 0 rfl) ?_
          refine lv_iadd hx hb dX10_person_83 ?_
          refine lv_iload_n hx hb dX10_person_84 rfl (lv_at hl 4 rfl) ?_
          obtain ⟨i21, h⟩ := g_ix h
          refine g_iast hx hb hE hP hS (by decide) rfl (by decide) i21 dX10_person_85 (fun H locs σ22 eσ22 hP hS => ?_)
          have h := g_nm eσ22 h
          refine lv_aload_n hx hb dX10_person_86 rfl (lv_at hl 1 rfl) ?_
          refine g_get hx hb ht hown hE hP (by decide) gE_101 uX10 rfl 0 (by decide) m_790 rfl rfl dX10_person_87 ?_
          refine lv_bipush (v := 79) hx hb dX10_person_90 (by decide) ?_
          refine lv_iload hx hb dX10_person_92 (lv_at hl 0 rfl) ?_
          refine lv_iadd hx hb dX10_person_94 ?_
          refine lv_iconst (v := (-1)) hx hb dX10_person_95 (by decide) ?_
          obtain ⟨i23, h⟩ := g_ix h
          refine g_iast hx hb hE hP hS (by decide) rfl (by decide) i23 dX10_person_96 (fun H locs σ24 eσ24 hP hS => ?_)
          have h := g_nm eσ24 h
          refine lv_aload_n hx hb dX10_person_97 rfl (lv_at hl 1 rfl) ?_
          refine g_get hx hb ht hown hE hP (by decide) gE_101 uX10 rfl 0 (by decide) m_790 rfl rfl dX10_person_98 ?_
          refine lv_bipush (v := 99) hx hb dX10_person_101 (by decide) ?_
          refine lv_iload hx hb dX10_person_103 (lv_at hl 0 rfl) ?_
          refine lv_iadd hx hb dX10_person_105 ?_
          refine lv_iconst (v := (-1)) hx hb dX10_person_106 (by decide) ?_
          obtain ⟨i25, h⟩ := g_ix h
          refine g_iast hx hb hE hP hS (by decide) rfl (by decide) i25 dX10_person_107 (fun H locs σ26 eσ26 hP hS => ?_)
          have h := g_nm eσ26 h
          refine lv_aload_n hx hb dX10_person_108 rfl (lv_at hl 1 rfl) ?_
          refine g_get hx hb ht hown hE hP (by decide) gE_101 uX10 rfl 0 (by decide) m_790 rfl rfl dX10_person_109 ?_
          refine lv_iconst (v := 1) hx hb dX10_person_112 (by decide) ?_
          refine lv_dup2_11 hx hb dX10_person_113 rfl rfl ?_
          obtain ⟨i27, h⟩ := g_ix h
          refine g_iald hx hb hE hP (by decide) rfl (by decide) i27 dX10_person_114 ?_
          refine lv_iconst (v := 1) hx hb dX10_person_115 (by decide) ?_
          refine lv_iadd hx hb dX10_person_116 ?_
          obtain ⟨i28, h⟩ := g_ix h
          refine g_iast hx hb hE hP hS (by decide) rfl (by decide) i28 dX10_person_117 (fun H locs σ29 eσ29 hP hS => ?_)
          have h := g_nm eσ29 h
          refine lv_iload hx hb dX10_person_118 (lv_at hl 0 rfl) ?_
          exact g_iret hx hb hr hlk hE hP hS h dX10_person_120
        · have h := g_ift c16 h
          refine lv_aload_n hx hb dX10_person_46 rfl (lv_at hl 1 rfl) ?_
          refine lv_ldc hx hb hown (ht _ m_842) dX10_person_47 ?_
          obtain ⟨r31, σ30, hcr31, h⟩ := g_bd h
          refine g_callV (As := [.int (-100005)]) (n := 1) hx hb hml hown ht (c_X10_finding l G _ _ hcr31) m_838 m_840 m_14 m_41 m_841 (by decide +kernel) (by decide) gE_101 rfl hE hP hS (fun _ h => h) (fun _ _ h => h) rfl hl.1 rfl (Nat.le_of_ble_eq_true rfl) dX10_person_49 ⟨by decide, by decide⟩ ⟨Nat.zero_le _, Nat.zero_le _⟩ (fun H locs hP hS => ?_)
          exact g_iret hx hb hr hlk hE hP hS h dX10_person_52
      · have h := g_ift c13 h
        refine lv_aload_n hx hb dX10_person_24 rfl (lv_at hl 0 rfl) ?_
        refine lv_ldc hx hb hown (ht _ m_837) dX10_person_25 ?_
        obtain ⟨r33, σ32, hcr33, h⟩ := g_bd h
        refine g_callV (As := [.int (-100001)]) (n := 1) hx hb hml hown ht (c_X10_finding l G _ _ hcr33) m_838 m_840 m_14 m_41 m_841 (by decide +kernel) (by decide) gE_101 rfl hE hP hS (fun _ h => h) (fun _ _ h => h) rfl hl.1 rfl (Nat.le_of_ble_eq_true rfl) dX10_person_27 ⟨by decide, by decide⟩ ⟨Nat.zero_le _, Nat.zero_le _⟩ (fun H locs hP hS => ?_)
        exact g_iret hx hb hr hlk hE hP hS h dX10_person_30

def M_X10_as (a1 a2 : Int32) (σ : gSt) : gO :=
  gBd (M_X10_isPerson a1 σ) (fun r2 σ1 => if r2 = 0 then (gBd (M_X10_finding (-100001) σ1) (fun r5 σ4 => some (r5, σ4))) else (gBd (M_X10_within a2 0 3 σ1) (fun r7 σ6 => if r7 = 0 then (gBd (M_X10_finding (-100001) σ6) (fun r20 σ19 => some (r20, σ19))) else (gIx 549 ((49 : Int32) + a1) (gNm ((σ6 102 ((49 : Int32) + a1).toNatClampNeg) : Int32) (fun x10 => if a2 = 0 then (some (a1, σ6)) else (if x10 = a2 then (some (a1, σ6)) else (if a2 = 2 then (if x10 = 3 then (some (a1, σ6)) else (gBd (M_X10_finding (-100004) σ6) (fun r18 σ17 => some (r18, σ17)))) else (gBd (M_X10_finding (-100004) σ6) (fun r15 σ14 => some (r15, σ14)))))))))))
set_option maxHeartbeats 4000000 in
set_option maxRecDepth 100000 in
theorem c_X10_as (l : Launch) (G : gPar) (a1 a2 : Int32) (σ : gSt) {r : Int32} {σ' : gSt} (h : M_X10_as a1 a2 σ = some (r, σ')) : gC l G yX10_as cX10_as 4 (some .int) 2 43 [.ref (G.2.2.1 101), .int a1, .int a2] σ r σ' := by
  refine gC_of (by decide) (Nat.le_of_ble_eq_true rfl) ?_
  intro p e s m below meth c hx hb hr ht hown hlk hml hE hP ls hl
  have hS : va_S (gA G) s.heap s.heap [] := va_S.rf
  have hl : lv_has ls 4 [(0, .ref (G.2.2.1 101)), (1, .int a1), (2, .int a2)] := hl
  unfold M_X10_as at h
  refine lv_aload_n hx hb dX10_as_0 rfl (lv_at hl 0 rfl) ?_
  refine lv_iload_n hx hb dX10_as_1 rfl (lv_at hl 1 rfl) ?_
  obtain ⟨r2, σ1, hcr2, h⟩ := g_bd h
  refine g_callV (As := [.int a1]) (n := 1) hx hb hml hown ht (c_X10_isPerson l G _ _ hcr2) m_863 m_865 m_16 m_41 m_866 (by decide +kernel) (by decide) gE_101 rfl hE hP hS (fun _ h => h) (fun _ _ h => h) rfl hl.1 rfl (Nat.le_of_ble_eq_true rfl) dX10_as_2 ⟨by decide, by decide⟩ ⟨Nat.zero_le _, Nat.zero_le _⟩ (fun H locs hP hS => ?_)
  refine lv_if_eq (tgt := 17) hx hb dX10_as_5 (by decide) (fun c3 => ?_) (fun c3 => ?_)
  · have h := g_ift c3 h
    refine lv_aload_n hx hb dX10_as_17 rfl (lv_at hl 0 rfl) ?_
    refine lv_ldc hx hb hown (ht _ m_837) dX10_as_18 ?_
    obtain ⟨r5, σ4, hcr5, h⟩ := g_bd h
    refine g_callV (As := [.int (-100001)]) (n := 1) hx hb hml hown ht (c_X10_finding l G _ _ hcr5) m_838 m_840 m_14 m_41 m_841 (by decide +kernel) (by decide) gE_101 rfl hE hP hS (fun _ h => h) (fun _ _ h => h) rfl hl.1 rfl (Nat.le_of_ble_eq_true rfl) dX10_as_20 ⟨by decide, by decide⟩ ⟨Nat.zero_le _, Nat.zero_le _⟩ (fun H locs hP hS => ?_)
    exact g_iret hx hb hr hlk hE hP hS h dX10_as_23
  · have h := g_iff c3 h
    refine lv_iload_n hx hb dX10_as_8 rfl (lv_at hl 2 rfl) ?_
    refine lv_iconst (v := 0) hx hb dX10_as_9 (by decide) ?_
    refine lv_iconst (v := 3) hx hb dX10_as_10 (by decide) ?_
    obtain ⟨r7, σ6, hcr7, h⟩ := g_bd h
    refine g_callS (As := [.int a2, .int 0, .int 3]) (n := 3) hx hb hml hown ht (c_X10_within l G _ _ _ _ hcr7) m_834 m_835 m_41 m_836 (by decide +kernel) hE hP hS (fun _ h => h) (fun _ _ h => h) rfl hl.1 rfl (Nat.le_of_ble_eq_true rfl) dX10_as_11 ⟨by decide, by decide⟩ ⟨Nat.zero_le _, Nat.zero_le _⟩ (fun H locs hP hS => ?_)
    refine lv_if_ne (tgt := 24) hx hb dX10_as_14 (by decide) (fun c8 => ?_) (fun c8 => ?_)
    · have h := g_iff c8 h
      refine lv_aload_n hx hb dX10_as_24 rfl (lv_at hl 0 rfl) ?_
      refine g_get hx hb ht hown hE hP (by decide) gE_101 uX10 rfl 0 (by decide) m_790 rfl rfl dX10_as_25 ?_
      refine lv_bipush (v := 49) hx hb dX10_as_28 (by decide) ?_
      refine lv_iload_n hx hb dX10_as_30 rfl (lv_at hl 1 rfl) ?_
      refine lv_iadd hx hb dX10_as_31 ?_
      obtain ⟨i9, h⟩ := g_ix h
      refine g_iald hx hb hE hP (by decide) rfl (by decide) i9 dX10_as_32 ?_
      refine lv_topi (fun x10 ex10 => ?_)
      have h := g_nm ex10 h
      refine lv_istore_n (lv' := [(3, .int x10), (0, .ref (G.2.2.1 101)), (1, .int a1), (2, .int a2)]) hx hb dX10_as_33 rfl hl (by decide) rfl (fun ls hl => ?_)
      refine lv_iload_n hx hb dX10_as_34 rfl (lv_at hl 3 rfl) ?_
      refine lv_if_eq (tgt := 53) hx hb dX10_as_35 (by decide) (fun c11 => ?_) (fun c11 => ?_)
      · have h := g_ift c11 h
        refine lv_iload_n hx hb dX10_as_53 rfl (lv_at hl 2 rfl) ?_
        refine lv_goto (tgt := 63) hx hb dX10_as_54 (by decide) ?_
        exact g_iret hx hb hr hlk hE hP hS h dX10_as_63
      · have h := g_iff c11 h
        refine lv_iload_n hx hb dX10_as_38 rfl (lv_at hl 0 rfl) ?_
        refine lv_iload_n hx hb dX10_as_39 rfl (lv_at hl 3 rfl) ?_
        refine lv_icmp_eq (tgt := 53) hx hb dX10_as_40 (by decide) (fun c12 => ?_) (fun c12 => ?_)
        · have h := g_ift c12 h
          refine lv_iload_n hx hb dX10_as_53 rfl (lv_at hl 2 rfl) ?_
          refine lv_goto (tgt := 63) hx hb dX10_as_54 (by decide) ?_
          exact g_iret hx hb hr hlk hE hP hS h dX10_as_63
        · have h := g_iff c12 h
          refine lv_iload_n hx hb dX10_as_43 rfl (lv_at hl 3 rfl) ?_
          refine lv_iconst (v := 2) hx hb dX10_as_44 (by decide) ?_
          refine lv_icmp_ne (tgt := 57) hx hb dX10_as_45 (by decide) (fun c13 => ?_) (fun c13 => ?_)
          · have h := g_iff c13 h
            refine lv_aload_n hx hb dX10_as_57 rfl (lv_at hl 1 rfl) ?_
            refine lv_ldc hx hb hown (ht _ m_867) dX10_as_58 ?_
            obtain ⟨r15, σ14, hcr15, h⟩ := g_bd h
            refine g_callV (As := [.int (-100004)]) (n := 1) hx hb hml hown ht (c_X10_finding l G _ _ hcr15) m_838 m_840 m_14 m_41 m_841 (by decide +kernel) (by decide) gE_101 rfl hE hP hS (fun _ h => h) (fun _ _ h => h) rfl hl.1 rfl (Nat.le_of_ble_eq_true rfl) dX10_as_60 ⟨by decide, by decide⟩ ⟨Nat.zero_le _, Nat.zero_le _⟩ (fun H locs hP hS => ?_)
            exact g_iret hx hb hr hlk hE hP hS h dX10_as_63
          · have h := g_ift c13 h
            refine lv_iload_n hx hb dX10_as_48 rfl (lv_at hl 0 rfl) ?_
            refine lv_iconst (v := 3) hx hb dX10_as_49 (by decide) ?_
            refine lv_icmp_ne (tgt := 57) hx hb dX10_as_50 (by decide) (fun c16 => ?_) (fun c16 => ?_)
            · have h := g_iff c16 h
              refine lv_aload_n hx hb dX10_as_57 rfl (lv_at hl 1 rfl) ?_
              refine lv_ldc hx hb hown (ht _ m_867) dX10_as_58 ?_
              obtain ⟨r18, σ17, hcr18, h⟩ := g_bd h
              refine g_callV (As := [.int (-100004)]) (n := 1) hx hb hml hown ht (c_X10_finding l G _ _ hcr18) m_838 m_840 m_14 m_41 m_841 (by decide +kernel) (by decide) gE_101 rfl hE hP hS (fun _ h => h) (fun _ _ h => h) rfl hl.1 rfl (Nat.le_of_ble_eq_true rfl) dX10_as_60 ⟨by decide, by decide⟩ ⟨Nat.zero_le _, Nat.zero_le _⟩ (fun H locs hP hS => ?_)
              exact g_iret hx hb hr hlk hE hP hS h dX10_as_63
            · have h := g_ift c16 h
              refine lv_iload_n hx hb dX10_as_53 rfl (lv_at hl 2 rfl) ?_
              refine lv_goto (tgt := 63) hx hb dX10_as_54 (by decide) ?_
              exact g_iret hx hb hr hlk hE hP hS h dX10_as_63
    · have h := g_ift c8 h
      refine lv_aload_n hx hb dX10_as_17 rfl (lv_at hl 0 rfl) ?_
      refine lv_ldc hx hb hown (ht _ m_837) dX10_as_18 ?_
      obtain ⟨r20, σ19, hcr20, h⟩ := g_bd h
      refine g_callV (As := [.int (-100001)]) (n := 1) hx hb hml hown ht (c_X10_finding l G _ _ hcr20) m_838 m_840 m_14 m_41 m_841 (by decide +kernel) (by decide) gE_101 rfl hE hP hS (fun _ h => h) (fun _ _ h => h) rfl hl.1 rfl (Nat.le_of_ble_eq_true rfl) dX10_as_20 ⟨by decide, by decide⟩ ⟨Nat.zero_le _, Nat.zero_le _⟩ (fun H locs hP hS => ?_)
      exact g_iret hx hb hr hlk hE hP hS h dX10_as_23

def L1_X10_link (a1 a2 a3 : Int32) : Nat → Int32 → gSt → (Int32 → gSt → gO) → gO
  | 0, _, _, _ => none
  | nL1 + 1, l1_4, σL1, kL1 =>
    if l1_4 < 0 then (kL1 l1_4 σL1) else (if l1_4 = a1 then (gBd (M_X10_finding (-100007) σL1) (fun r7 σ6 => some (r7, σ6))) else (gIx 549 ((79 : Int32) + l1_4) (gNm ((σL1 102 ((79 : Int32) + l1_4).toNatClampNeg) : Int32) (fun x5 => L1_X10_link a1 a2 a3 nL1 x5 σL1 kL1))))
def M_X10_link (a1 a2 a3 : Int32) (σ : gSt) : gO :=
  L1_X10_link a1 a2 a3 gFu a2 σ (fun z8 σ9 => gIx 549 ((79 : Int32) + a1) (gNm ((σ9 102 ((79 : Int32) + a1).toNatClampNeg) : Int32) (fun x11 => gIx 549 ((79 : Int32) + a1) (gNm (gUp σ9 102 ((79 : Int32) + a1).toNatClampNeg a2) (fun σ13 => gIx 549 ((89 : Int32) + a1) (gNm (gUp σ13 102 ((89 : Int32) + a1).toNatClampNeg a3) (fun σ15 => some (x11, σ15))))))))
set_option maxHeartbeats 4000000 in
set_option maxRecDepth 100000 in
theorem c_X10_link (l : Launch) (G : gPar) (a1 a2 a3 : Int32) (σ : gSt) {r : Int32} {σ' : gSt} (h : M_X10_link a1 a2 a3 σ = some (r, σ')) : gC l G yX10_link cX10_link 5 (some .int) 1 21 [.ref (G.2.2.1 101), .int a1, .int a2, .int a3] σ r σ' := by
  refine gC_of (by decide) (Nat.le_of_ble_eq_true rfl) ?_
  intro p e s m below meth c hx hb hr ht hown hlk hml hE hP ls hl
  have hS : va_S (gA G) s.heap s.heap [] := va_S.rf
  have hl : lv_has ls 5 [(0, .ref (G.2.2.1 101)), (1, .int a1), (2, .int a2), (3, .int a3)] := hl
  unfold M_X10_link at h
  refine lv_iload_n hx hb dX10_link_0 rfl (lv_at hl 2 rfl) ?_
  refine lv_istore (lv' := [(4, .int a2), (0, .ref (G.2.2.1 101)), (1, .int a1), (2, .int a2), (3, .int a3)]) hx hb dX10_link_1 hl (by decide) rfl (fun ls hl => ?_)
  have LPL1 : ∀ (kL1 : Int32 → gSt → gO), (∀ (l1_4 : Int32) (σL1 : gSt) (H : Heap) (locs : List Loc) (ls : Array Slot), kL1 l1_4 σL1 = some (r, σ') → gW G σL1 H → va_S (gA G) s.heap H locs → lv_has ls 5 [(4, .int l1_4), (0, .ref (G.2.2.1 101)), (1, .int a1), (2, .int a2), (3, .int a3)] → W p l e (gRm 1 21) s m ([.ref (G.2.2.1 101), .int a1, .int a2, .int a3].toArray) below meth c H locs 0 0 (MQ below (gQ G r σ') ([.ref (G.2.2.1 101), .int a1, .int a2, .int a3].toArray) s 0 0 (gA G)) (F0 m 36 ls [])) → ∀ (nL1 : Nat) (l1_4 : Int32) (σL1 : gSt) (H : Heap) (locs : List Loc) (ls : Array Slot), L1_X10_link a1 a2 a3 nL1 l1_4 σL1 kL1 = some (r, σ') → gW G σL1 H → va_S (gA G) s.heap H locs → lv_has ls 5 [(4, .int l1_4), (0, .ref (G.2.2.1 101)), (1, .int a1), (2, .int a2), (3, .int a3)] → W p l e (gRm 1 21) s m ([.ref (G.2.2.1 101), .int a1, .int a2, .int a3].toArray) below meth c H locs 0 0 (MQ below (gQ G r σ') ([.ref (G.2.2.1 101), .int a1, .int a2, .int a3].toArray) s 0 0 (gA G)) (F0 m 3 ls []) := by
    intro kL1 hKL1 nL1
    induction nL1 with
    | zero =>
      intro l1_4 σL1 H locs ls h
      cases h
    | succ nL1 ihL1 =>
      intro l1_4 σL1 H locs ls h hP hS hl
      rw [L1_X10_link] at h
      refine lv_iload hx hb dX10_link_3 (lv_at hl 0 rfl) ?_
      refine lv_if_lt (tgt := 36) hx hb dX10_link_5 (by decide) (fun c2 => ?_) (fun c2 => ?_)
      · have h := g_ift c2 h
        exact hKL1 _ _ _ _ _ h hP hS (lv_sub hl [0, 1, 2, 3, 4] rfl)
      · have h := g_iff c2 h
        refine lv_iload hx hb dX10_link_8 (lv_at hl 0 rfl) ?_
        refine lv_iload_n hx hb dX10_link_10 rfl (lv_at hl 2 rfl) ?_
        refine lv_icmp_ne (tgt := 21) hx hb dX10_link_11 (by decide) (fun c3 => ?_) (fun c3 => ?_)
        · have h := g_iff c3 h
          refine lv_aload_n hx hb dX10_link_21 rfl (lv_at hl 1 rfl) ?_
          refine g_get hx hb ht hown hE hP (by decide) gE_101 uX10 rfl 0 (by decide) m_790 rfl rfl dX10_link_22 ?_
          refine lv_bipush (v := 79) hx hb dX10_link_25 (by decide) ?_
          refine lv_iload hx hb dX10_link_27 (lv_at hl 0 rfl) ?_
          refine lv_iadd hx hb dX10_link_29 ?_
          obtain ⟨i4, h⟩ := g_ix h
          refine g_iald hx hb hE hP (by decide) rfl (by decide) i4 dX10_link_30 ?_
          refine lv_topi (fun x5 ex5 => ?_)
          have h := g_nm ex5 h
          refine lv_istore (lv' := [(4, .int x5), (0, .ref (G.2.2.1 101)), (1, .int a1), (2, .int a2), (3, .int a3)]) hx hb dX10_link_31 hl (by decide) rfl (fun ls hl => ?_)
          refine lv_goto (tgt := 3) hx hb dX10_link_33 (by decide) ?_
          exact ihL1 _ _ _ _ _ h hP hS (lv_sub hl [0, 1, 2, 3, 4] rfl)
        · have h := g_ift c3 h
          refine lv_aload_n hx hb dX10_link_14 rfl (lv_at hl 1 rfl) ?_
          refine lv_ldc hx hb hown (ht _ m_876) dX10_link_15 ?_
          obtain ⟨r7, σ6, hcr7, h⟩ := g_bd h
          refine g_callV (As := [.int (-100007)]) (n := 1) hx hb hml hown ht (c_X10_finding l G _ _ hcr7) m_838 m_840 m_14 m_41 m_841 (by decide +kernel) (by decide) gE_101 rfl hE hP hS (fun _ h => h) (fun _ _ h => h) rfl hl.1 rfl (Nat.le_of_ble_eq_true rfl) dX10_link_17 ⟨by decide, by decide⟩ ⟨Nat.zero_le _, Nat.zero_le _⟩ (fun H locs hP hS => ?_)
          exact g_iret hx hb hr hlk hE hP hS h dX10_link_20
  refine LPL1 _ (fun z8 σ9 H locs ls h hP hS hl => ?_) gFu _ _ _ _ _ h hP hS (lv_sub hl [0, 1, 2, 3, 4] rfl)
  refine lv_aload_n hx hb dX10_link_36 rfl (lv_at hl 1 rfl) ?_
  refine g_get hx hb ht hown hE hP (by decide) gE_101 uX10 rfl 0 (by decide) m_790 rfl rfl dX10_link_37 ?_
  refine lv_bipush (v := 79) hx hb dX10_link_40 (by decide) ?_
  refine lv_iload_n hx hb dX10_link_42 rfl (lv_at hl 2 rfl) ?_
  refine lv_iadd hx hb dX10_link_43 ?_
  obtain ⟨i10, h⟩ := g_ix h
  refine g_iald hx hb hE hP (by decide) rfl (by decide) i10 dX10_link_44 ?_
  refine lv_topi (fun x11 ex11 => ?_)
  have h := g_nm ex11 h
  refine lv_istore (lv' := [(4, .int x11), (0, .ref (G.2.2.1 101)), (1, .int a1), (2, .int a2), (3, .int a3)]) hx hb dX10_link_45 hl (by decide) rfl (fun ls hl => ?_)
  refine lv_aload_n hx hb dX10_link_47 rfl (lv_at hl 1 rfl) ?_
  refine g_get hx hb ht hown hE hP (by decide) gE_101 uX10 rfl 0 (by decide) m_790 rfl rfl dX10_link_48 ?_
  refine lv_bipush (v := 79) hx hb dX10_link_51 (by decide) ?_
  refine lv_iload_n hx hb dX10_link_53 rfl (lv_at hl 2 rfl) ?_
  refine lv_iadd hx hb dX10_link_54 ?_
  refine lv_iload_n hx hb dX10_link_55 rfl (lv_at hl 3 rfl) ?_
  obtain ⟨i12, h⟩ := g_ix h
  refine g_iast hx hb hE hP hS (by decide) rfl (by decide) i12 dX10_link_56 (fun H locs σ13 eσ13 hP hS => ?_)
  have h := g_nm eσ13 h
  refine lv_aload_n hx hb dX10_link_57 rfl (lv_at hl 1 rfl) ?_
  refine g_get hx hb ht hown hE hP (by decide) gE_101 uX10 rfl 0 (by decide) m_790 rfl rfl dX10_link_58 ?_
  refine lv_bipush (v := 89) hx hb dX10_link_61 (by decide) ?_
  refine lv_iload_n hx hb dX10_link_63 rfl (lv_at hl 2 rfl) ?_
  refine lv_iadd hx hb dX10_link_64 ?_
  refine lv_iload_n hx hb dX10_link_65 rfl (lv_at hl 4 rfl) ?_
  obtain ⟨i14, h⟩ := g_ix h
  refine g_iast hx hb hE hP hS (by decide) rfl (by decide) i14 dX10_link_66 (fun H locs σ15 eσ15 hP hS => ?_)
  have h := g_nm eσ15 h
  refine lv_iload hx hb dX10_link_67 (lv_at hl 0 rfl) ?_
  exact g_iret hx hb hr hlk hE hP hS h dX10_link_69

def M_X10_husband (a1 a2 a3 : Int32) (σ : gSt) : gO :=
  gBd (M_X10_isPerson a1 σ) (fun r2 σ1 => if r2 = 0 then (gBd (M_X10_finding (-100001) σ1) (fun r5 σ4 => some (r5, σ4))) else (if a2 = (-1) then (gIx 549 ((49 : Int32) + a1) (if (σ1 102 ((49 : Int32) + a1).toNatClampNeg) = 1 then (gBd (M_X10_link a1 a2 a3 σ1) (fun r12 σ11 => some (r12, σ11))) else (gBd (M_X10_finding (-100004) σ1) (fun r10 σ9 => some (r10, σ9))))) else (gBd (M_X10_isPerson a2 σ1) (fun r14 σ13 => if r14 = 0 then (gBd (M_X10_finding (-100001) σ13) (fun r17 σ16 => some (r17, σ16))) else (gBd (M_X10_isDay a3 σ13) (fun r19 σ18 => if r19 = 0 then (gBd (M_X10_finding (-100001) σ18) (fun r28 σ27 => some (r28, σ27))) else (gIx 549 ((49 : Int32) + a1) (if (σ18 102 ((49 : Int32) + a1).toNatClampNeg) = 1 then (gBd (M_X10_link a1 a2 a3 σ18) (fun r26 σ25 => some (r26, σ25))) else (gBd (M_X10_finding (-100004) σ18) (fun r24 σ23 => some (r24, σ23)))))))))))
set_option maxHeartbeats 4000000 in
set_option maxRecDepth 100000 in
theorem c_X10_husband (l : Launch) (G : gPar) (a1 a2 a3 : Int32) (σ : gSt) {r : Int32} {σ' : gSt} (h : M_X10_husband a1 a2 a3 σ = some (r, σ')) : gC l G yX10_husband cX10_husband 4 (some .int) 2 45 [.ref (G.2.2.1 101), .int a1, .int a2, .int a3] σ r σ' := by
  refine gC_of (by decide) (Nat.le_of_ble_eq_true rfl) ?_
  intro p e s m below meth c hx hb hr ht hown hlk hml hE hP ls hl
  have hS : va_S (gA G) s.heap s.heap [] := va_S.rf
  have hl : lv_has ls 4 [(0, .ref (G.2.2.1 101)), (1, .int a1), (2, .int a2), (3, .int a3)] := hl
  unfold M_X10_husband at h
  refine lv_aload_n hx hb dX10_husband_0 rfl (lv_at hl 0 rfl) ?_
  refine lv_iload_n hx hb dX10_husband_1 rfl (lv_at hl 1 rfl) ?_
  obtain ⟨r2, σ1, hcr2, h⟩ := g_bd h
  refine g_callV (As := [.int a1]) (n := 1) hx hb hml hown ht (c_X10_isPerson l G _ _ hcr2) m_863 m_865 m_16 m_41 m_866 (by decide +kernel) (by decide) gE_101 rfl hE hP hS (fun _ h => h) (fun _ _ h => h) rfl hl.1 rfl (Nat.le_of_ble_eq_true rfl) dX10_husband_2 ⟨by decide, by decide⟩ ⟨Nat.zero_le _, Nat.zero_le _⟩ (fun H locs hP hS => ?_)
  refine lv_if_eq (tgt := 28) hx hb dX10_husband_5 (by decide) (fun c3 => ?_) (fun c3 => ?_)
  · have h := g_ift c3 h
    refine lv_aload_n hx hb dX10_husband_28 rfl (lv_at hl 0 rfl) ?_
    refine lv_ldc hx hb hown (ht _ m_837) dX10_husband_29 ?_
    obtain ⟨r5, σ4, hcr5, h⟩ := g_bd h
    refine g_callV (As := [.int (-100001)]) (n := 1) hx hb hml hown ht (c_X10_finding l G _ _ hcr5) m_838 m_840 m_14 m_41 m_841 (by decide +kernel) (by decide) gE_101 rfl hE hP hS (fun _ h => h) (fun _ _ h => h) rfl hl.1 rfl (Nat.le_of_ble_eq_true rfl) dX10_husband_31 ⟨by decide, by decide⟩ ⟨Nat.zero_le _, Nat.zero_le _⟩ (fun H locs hP hS => ?_)
    exact g_iret hx hb hr hlk hE hP hS h dX10_husband_34
  · have h := g_iff c3 h
    refine lv_iload_n hx hb dX10_husband_8 rfl (lv_at hl 2 rfl) ?_
    refine lv_iconst (v := (-1)) hx hb dX10_husband_9 (by decide) ?_
    refine lv_icmp_eq (tgt := 35) hx hb dX10_husband_10 (by decide) (fun c6 => ?_) (fun c6 => ?_)
    · have h := g_ift c6 h
      refine lv_aload_n hx hb dX10_husband_35 rfl (lv_at hl 0 rfl) ?_
      refine g_get hx hb ht hown hE hP (by decide) gE_101 uX10 rfl 0 (by decide) m_790 rfl rfl dX10_husband_36 ?_
      refine lv_bipush (v := 49) hx hb dX10_husband_39 (by decide) ?_
      refine lv_iload_n hx hb dX10_husband_41 rfl (lv_at hl 1 rfl) ?_
      refine lv_iadd hx hb dX10_husband_42 ?_
      obtain ⟨i7, h⟩ := g_ix h
      refine g_iald hx hb hE hP (by decide) rfl (by decide) i7 dX10_husband_43 ?_
      refine lv_iconst (v := 1) hx hb dX10_husband_44 (by decide) ?_
      refine lv_icmp_ne (tgt := 58) hx hb dX10_husband_45 (by decide) (fun c8 => ?_) (fun c8 => ?_)
      · have h := g_iff c8 h
        refine lv_aload_n hx hb dX10_husband_58 rfl (lv_at hl 0 rfl) ?_
        refine lv_ldc hx hb hown (ht _ m_867) dX10_husband_59 ?_
        obtain ⟨r10, σ9, hcr10, h⟩ := g_bd h
        refine g_callV (As := [.int (-100004)]) (n := 1) hx hb hml hown ht (c_X10_finding l G _ _ hcr10) m_838 m_840 m_14 m_41 m_841 (by decide +kernel) (by decide) gE_101 rfl hE hP hS (fun _ h => h) (fun _ _ h => h) rfl hl.1 rfl (Nat.le_of_ble_eq_true rfl) dX10_husband_61 ⟨by decide, by decide⟩ ⟨Nat.zero_le _, Nat.zero_le _⟩ (fun H locs hP hS => ?_)
        exact g_iret hx hb hr hlk hE hP hS h dX10_husband_64
      · have h := g_ift c8 h
        refine lv_aload_n hx hb dX10_husband_48 rfl (lv_at hl 0 rfl) ?_
        refine lv_iload_n hx hb dX10_husband_49 rfl (lv_at hl 1 rfl) ?_
        refine lv_iload_n hx hb dX10_husband_50 rfl (lv_at hl 2 rfl) ?_
        refine lv_iload_n hx hb dX10_husband_51 rfl (lv_at hl 3 rfl) ?_
        obtain ⟨r12, σ11, hcr12, h⟩ := g_bd h
        refine g_callV (As := [.int a1, .int a2, .int a3]) (n := 3) hx hb hml hown ht (c_X10_link l G _ _ _ _ hcr12) m_872 m_874 m_17 m_41 m_875 (by decide +kernel) (by decide) gE_101 rfl hE hP hS (fun _ h => h) (fun _ _ h => h) rfl hl.1 rfl (Nat.le_of_ble_eq_true rfl) dX10_husband_52 ⟨by decide, by decide⟩ ⟨Nat.zero_le _, Nat.zero_le _⟩ (fun H locs hP hS => ?_)
        refine lv_goto (tgt := 64) hx hb dX10_husband_55 (by decide) ?_
        exact g_iret hx hb hr hlk hE hP hS h dX10_husband_64
    · have h := g_iff c6 h
      refine lv_aload_n hx hb dX10_husband_13 rfl (lv_at hl 0 rfl) ?_
      refine lv_iload_n hx hb dX10_husband_14 rfl (lv_at hl 2 rfl) ?_
      obtain ⟨r14, σ13, hcr14, h⟩ := g_bd h
      refine g_callV (As := [.int a2]) (n := 1) hx hb hml hown ht (c_X10_isPerson l G _ _ hcr14) m_863 m_865 m_16 m_41 m_866 (by decide +kernel) (by decide) gE_101 rfl hE hP hS (fun _ h => h) (fun _ _ h => h) rfl hl.1 rfl (Nat.le_of_ble_eq_true rfl) dX10_husband_15 ⟨by decide, by decide⟩ ⟨Nat.zero_le _, Nat.zero_le _⟩ (fun H locs hP hS => ?_)
      refine lv_if_eq (tgt := 28) hx hb dX10_husband_18 (by decide) (fun c15 => ?_) (fun c15 => ?_)
      · have h := g_ift c15 h
        refine lv_aload_n hx hb dX10_husband_28 rfl (lv_at hl 0 rfl) ?_
        refine lv_ldc hx hb hown (ht _ m_837) dX10_husband_29 ?_
        obtain ⟨r17, σ16, hcr17, h⟩ := g_bd h
        refine g_callV (As := [.int (-100001)]) (n := 1) hx hb hml hown ht (c_X10_finding l G _ _ hcr17) m_838 m_840 m_14 m_41 m_841 (by decide +kernel) (by decide) gE_101 rfl hE hP hS (fun _ h => h) (fun _ _ h => h) rfl hl.1 rfl (Nat.le_of_ble_eq_true rfl) dX10_husband_31 ⟨by decide, by decide⟩ ⟨Nat.zero_le _, Nat.zero_le _⟩ (fun H locs hP hS => ?_)
        exact g_iret hx hb hr hlk hE hP hS h dX10_husband_34
      · have h := g_iff c15 h
        refine lv_iload_n hx hb dX10_husband_21 rfl (lv_at hl 3 rfl) ?_
        obtain ⟨r19, σ18, hcr19, h⟩ := g_bd h
        refine g_callS (As := [.int a3]) (n := 1) hx hb hml hown ht (c_X10_isDay l G _ _ hcr19) m_856 m_857 m_41 m_858 (by decide +kernel) hE hP hS (fun _ h => h) (fun _ _ h => h) rfl hl.1 rfl (Nat.le_of_ble_eq_true rfl) dX10_husband_22 ⟨by decide, by decide⟩ ⟨Nat.zero_le _, Nat.zero_le _⟩ (fun H locs hP hS => ?_)
        refine lv_if_ne (tgt := 35) hx hb dX10_husband_25 (by decide) (fun c20 => ?_) (fun c20 => ?_)
        · have h := g_iff c20 h
          refine lv_aload_n hx hb dX10_husband_35 rfl (lv_at hl 0 rfl) ?_
          refine g_get hx hb ht hown hE hP (by decide) gE_101 uX10 rfl 0 (by decide) m_790 rfl rfl dX10_husband_36 ?_
          refine lv_bipush (v := 49) hx hb dX10_husband_39 (by decide) ?_
          refine lv_iload_n hx hb dX10_husband_41 rfl (lv_at hl 1 rfl) ?_
          refine lv_iadd hx hb dX10_husband_42 ?_
          obtain ⟨i21, h⟩ := g_ix h
          refine g_iald hx hb hE hP (by decide) rfl (by decide) i21 dX10_husband_43 ?_
          refine lv_iconst (v := 1) hx hb dX10_husband_44 (by decide) ?_
          refine lv_icmp_ne (tgt := 58) hx hb dX10_husband_45 (by decide) (fun c22 => ?_) (fun c22 => ?_)
          · have h := g_iff c22 h
            refine lv_aload_n hx hb dX10_husband_58 rfl (lv_at hl 0 rfl) ?_
            refine lv_ldc hx hb hown (ht _ m_867) dX10_husband_59 ?_
            obtain ⟨r24, σ23, hcr24, h⟩ := g_bd h
            refine g_callV (As := [.int (-100004)]) (n := 1) hx hb hml hown ht (c_X10_finding l G _ _ hcr24) m_838 m_840 m_14 m_41 m_841 (by decide +kernel) (by decide) gE_101 rfl hE hP hS (fun _ h => h) (fun _ _ h => h) rfl hl.1 rfl (Nat.le_of_ble_eq_true rfl) dX10_husband_61 ⟨by decide, by decide⟩ ⟨Nat.zero_le _, Nat.zero_le _⟩ (fun H locs hP hS => ?_)
            exact g_iret hx hb hr hlk hE hP hS h dX10_husband_64
          · have h := g_ift c22 h
            refine lv_aload_n hx hb dX10_husband_48 rfl (lv_at hl 0 rfl) ?_
            refine lv_iload_n hx hb dX10_husband_49 rfl (lv_at hl 1 rfl) ?_
            refine lv_iload_n hx hb dX10_husband_50 rfl (lv_at hl 2 rfl) ?_
            refine lv_iload_n hx hb dX10_husband_51 rfl (lv_at hl 3 rfl) ?_
            obtain ⟨r26, σ25, hcr26, h⟩ := g_bd h
            refine g_callV (As := [.int a1, .int a2, .int a3]) (n := 3) hx hb hml hown ht (c_X10_link l G _ _ _ _ hcr26) m_872 m_874 m_17 m_41 m_875 (by decide +kernel) (by decide) gE_101 rfl hE hP hS (fun _ h => h) (fun _ _ h => h) rfl hl.1 rfl (Nat.le_of_ble_eq_true rfl) dX10_husband_52 ⟨by decide, by decide⟩ ⟨Nat.zero_le _, Nat.zero_le _⟩ (fun H locs hP hS => ?_)
            refine lv_goto (tgt := 64) hx hb dX10_husband_55 (by decide) ?_
            exact g_iret hx hb hr hlk hE hP hS h dX10_husband_64
        · have h := g_ift c20 h
          refine lv_aload_n hx hb dX10_husband_28 rfl (lv_at hl 0 rfl) ?_
          refine lv_ldc hx hb hown (ht _ m_837) dX10_husband_29 ?_
          obtain ⟨r28, σ27, hcr28, h⟩ := g_bd h
          refine g_callV (As := [.int (-100001)]) (n := 1) hx hb hml hown ht (c_X10_finding l G _ _ hcr28) m_838 m_840 m_14 m_41 m_841 (by decide +kernel) (by decide) gE_101 rfl hE hP hS (fun _ h => h) (fun _ _ h => h) rfl hl.1 rfl (Nat.le_of_ble_eq_true rfl) dX10_husband_31 ⟨by decide, by decide⟩ ⟨Nat.zero_le _, Nat.zero_le _⟩ (fun H locs hP hS => ?_)
          exact g_iret hx hb hr hlk hE hP hS h dX10_husband_34

def M_X10_father (a1 a2 : Int32) (σ : gSt) : gO :=
  gBd (M_X10_isPerson a1 σ) (fun r2 σ1 => if r2 = 0 then (gBd (M_X10_finding (-100001) σ1) (fun r5 σ4 => some (r5, σ4))) else (if a2 = (-1) then (gIx 549 ((49 : Int32) + a1) (if (σ1 102 ((49 : Int32) + a1).toNatClampNeg) = 2 then (gBd (M_X10_link a1 a2 0 σ1) (fun r12 σ11 => some (r12, σ11))) else (gBd (M_X10_finding (-100004) σ1) (fun r10 σ9 => some (r10, σ9))))) else (gBd (M_X10_isPerson a2 σ1) (fun r14 σ13 => if r14 = 0 then (gBd (M_X10_finding (-100001) σ13) (fun r23 σ22 => some (r23, σ22))) else (gIx 549 ((49 : Int32) + a1) (if (σ13 102 ((49 : Int32) + a1).toNatClampNeg) = 2 then (gBd (M_X10_link a1 a2 0 σ13) (fun r21 σ20 => some (r21, σ20))) else (gBd (M_X10_finding (-100004) σ13) (fun r19 σ18 => some (r19, σ18)))))))))
set_option maxHeartbeats 4000000 in
set_option maxRecDepth 100000 in
theorem c_X10_father (l : Launch) (G : gPar) (a1 a2 : Int32) (σ : gSt) {r : Int32} {σ' : gSt} (h : M_X10_father a1 a2 σ = some (r, σ')) : gC l G yX10_father cX10_father 3 (some .int) 2 45 [.ref (G.2.2.1 101), .int a1, .int a2] σ r σ' := by
  refine gC_of (by decide) (Nat.le_of_ble_eq_true rfl) ?_
  intro p e s m below meth c hx hb hr ht hown hlk hml hE hP ls hl
  have hS : va_S (gA G) s.heap s.heap [] := va_S.rf
  have hl : lv_has ls 3 [(0, .ref (G.2.2.1 101)), (1, .int a1), (2, .int a2)] := hl
  unfold M_X10_father at h
  refine lv_aload_n hx hb dX10_father_0 rfl (lv_at hl 0 rfl) ?_
  refine lv_iload_n hx hb dX10_father_1 rfl (lv_at hl 1 rfl) ?_
  obtain ⟨r2, σ1, hcr2, h⟩ := g_bd h
  refine g_callV (As := [.int a1]) (n := 1) hx hb hml hown ht (c_X10_isPerson l G _ _ hcr2) m_863 m_865 m_16 m_41 m_866 (by decide +kernel) (by decide) gE_101 rfl hE hP hS (fun _ h => h) (fun _ _ h => h) rfl hl.1 rfl (Nat.le_of_ble_eq_true rfl) dX10_father_2 ⟨by decide, by decide⟩ ⟨Nat.zero_le _, Nat.zero_le _⟩ (fun H locs hP hS => ?_)
  refine lv_if_eq (tgt := 21) hx hb dX10_father_5 (by decide) (fun c3 => ?_) (fun c3 => ?_)
  · have h := g_ift c3 h
    refine lv_aload_n hx hb dX10_father_21 rfl (lv_at hl 0 rfl) ?_
    refine lv_ldc hx hb hown (ht _ m_837) dX10_father_22 ?_
    obtain ⟨r5, σ4, hcr5, h⟩ := g_bd h
    refine g_callV (As := [.int (-100001)]) (n := 1) hx hb hml hown ht (c_X10_finding l G _ _ hcr5) m_838 m_840 m_14 m_41 m_841 (by decide +kernel) (by decide) gE_101 rfl hE hP hS (fun _ h => h) (fun _ _ h => h) rfl hl.1 rfl (Nat.le_of_ble_eq_true rfl) dX10_father_24 ⟨by decide, by decide⟩ ⟨Nat.zero_le _, Nat.zero_le _⟩ (fun H locs hP hS => ?_)
    exact g_iret hx hb hr hlk hE hP hS h dX10_father_27
  · have h := g_iff c3 h
    refine lv_iload_n hx hb dX10_father_8 rfl (lv_at hl 2 rfl) ?_
    refine lv_iconst (v := (-1)) hx hb dX10_father_9 (by decide) ?_
    refine lv_icmp_eq (tgt := 28) hx hb dX10_father_10 (by decide) (fun c6 => ?_) (fun c6 => ?_)
    · have h := g_ift c6 h
      refine lv_aload_n hx hb dX10_father_28 rfl (lv_at hl 0 rfl) ?_
      refine g_get hx hb ht hown hE hP (by decide) gE_101 uX10 rfl 0 (by decide) m_790 rfl rfl dX10_father_29 ?_
      refine lv_bipush (v := 49) hx hb dX10_father_32 (by decide) ?_
      refine lv_iload_n hx hb dX10_father_34 rfl (lv_at hl 1 rfl) ?_
      refine lv_iadd hx hb dX10_father_35 ?_
      obtain ⟨i7, h⟩ := g_ix h
      refine g_iald hx hb hE hP (by decide) rfl (by decide) i7 dX10_father_36 ?_
      refine lv_iconst (v := 2) hx hb dX10_father_37 (by decide) ?_
      refine lv_icmp_ne (tgt := 51) hx hb dX10_father_38 (by decide) (fun c8 => ?_) (fun c8 => ?_)
      · have h := g_iff c8 h
        refine lv_aload_n hx hb dX10_father_51 rfl (lv_at hl 0 rfl) ?_
        refine lv_ldc hx hb hown (ht _ m_867) dX10_father_52 ?_
        obtain ⟨r10, σ9, hcr10, h⟩ := g_bd h
        refine g_callV (As := [.int (-100004)]) (n := 1) hx hb hml hown ht (c_X10_finding l G _ _ hcr10) m_838 m_840 m_14 m_41 m_841 (by decide +kernel) (by decide) gE_101 rfl hE hP hS (fun _ h => h) (fun _ _ h => h) rfl hl.1 rfl (Nat.le_of_ble_eq_true rfl) dX10_father_54 ⟨by decide, by decide⟩ ⟨Nat.zero_le _, Nat.zero_le _⟩ (fun H locs hP hS => ?_)
        exact g_iret hx hb hr hlk hE hP hS h dX10_father_57
      · have h := g_ift c8 h
        refine lv_aload_n hx hb dX10_father_41 rfl (lv_at hl 0 rfl) ?_
        refine lv_iload_n hx hb dX10_father_42 rfl (lv_at hl 1 rfl) ?_
        refine lv_iload_n hx hb dX10_father_43 rfl (lv_at hl 2 rfl) ?_
        refine lv_iconst (v := 0) hx hb dX10_father_44 (by decide) ?_
        obtain ⟨r12, σ11, hcr12, h⟩ := g_bd h
        refine g_callV (As := [.int a1, .int a2, .int 0]) (n := 3) hx hb hml hown ht (c_X10_link l G _ _ _ _ hcr12) m_872 m_874 m_17 m_41 m_875 (by decide +kernel) (by decide) gE_101 rfl hE hP hS (fun _ h => h) (fun _ _ h => h) rfl hl.1 rfl (Nat.le_of_ble_eq_true rfl) dX10_father_45 ⟨by decide, by decide⟩ ⟨Nat.zero_le _, Nat.zero_le _⟩ (fun H locs hP hS => ?_)
        refine lv_goto (tgt := 57) hx hb dX10_father_48 (by decide) ?_
        exact g_iret hx hb hr hlk hE hP hS h dX10_father_57
    · have h := g_iff c6 h
      refine lv_aload_n hx hb dX10_father_13 rfl (lv_at hl 0 rfl) ?_
      refine lv_iload_n hx hb dX10_father_14 rfl (lv_at hl 2 rfl) ?_
      obtain ⟨r14, σ13, hcr14, h⟩ := g_bd h
      refine g_callV (As := [.int a2]) (n := 1) hx hb hml hown ht (c_X10_isPerson l G _ _ hcr14) m_863 m_865 m_16 m_41 m_866 (by decide +kernel) (by decide) gE_101 rfl hE hP hS (fun _ h => h) (fun _ _ h => h) rfl hl.1 rfl (Nat.le_of_ble_eq_true rfl) dX10_father_15 ⟨by decide, by decide⟩ ⟨Nat.zero_le _, Nat.zero_le _⟩ (fun H locs hP hS => ?_)
      refine lv_if_ne (tgt := 28) hx hb dX10_father_18 (by decide) (fun c15 => ?_) (fun c15 => ?_)
      · have h := g_iff c15 h
        refine lv_aload_n hx hb dX10_father_28 rfl (lv_at hl 0 rfl) ?_
        refine g_get hx hb ht hown hE hP (by decide) gE_101 uX10 rfl 0 (by decide) m_790 rfl rfl dX10_father_29 ?_
        refine lv_bipush (v := 49) hx hb dX10_father_32 (by decide) ?_
        refine lv_iload_n hx hb dX10_father_34 rfl (lv_at hl 1 rfl) ?_
        refine lv_iadd hx hb dX10_father_35 ?_
        obtain ⟨i16, h⟩ := g_ix h
        refine g_iald hx hb hE hP (by decide) rfl (by decide) i16 dX10_father_36 ?_
        refine lv_iconst (v := 2) hx hb dX10_father_37 (by decide) ?_
        refine lv_icmp_ne (tgt := 51) hx hb dX10_father_38 (by decide) (fun c17 => ?_) (fun c17 => ?_)
        · have h := g_iff c17 h
          refine lv_aload_n hx hb dX10_father_51 rfl (lv_at hl 0 rfl) ?_
          refine lv_ldc hx hb hown (ht _ m_867) dX10_father_52 ?_
          obtain ⟨r19, σ18, hcr19, h⟩ := g_bd h
          refine g_callV (As := [.int (-100004)]) (n := 1) hx hb hml hown ht (c_X10_finding l G _ _ hcr19) m_838 m_840 m_14 m_41 m_841 (by decide +kernel) (by decide) gE_101 rfl hE hP hS (fun _ h => h) (fun _ _ h => h) rfl hl.1 rfl (Nat.le_of_ble_eq_true rfl) dX10_father_54 ⟨by decide, by decide⟩ ⟨Nat.zero_le _, Nat.zero_le _⟩ (fun H locs hP hS => ?_)
          exact g_iret hx hb hr hlk hE hP hS h dX10_father_57
        · have h := g_ift c17 h
          refine lv_aload_n hx hb dX10_father_41 rfl (lv_at hl 0 rfl) ?_
          refine lv_iload_n hx hb dX10_father_42 rfl (lv_at hl 1 rfl) ?_
          refine lv_iload_n hx hb dX10_father_43 rfl (lv_at hl 2 rfl) ?_
          refine lv_iconst (v := 0) hx hb dX10_father_44 (by decide) ?_
          obtain ⟨r21, σ20, hcr21, h⟩ := g_bd h
          refine g_callV (As := [.int a1, .int a2, .int 0]) (n := 3) hx hb hml hown ht (c_X10_link l G _ _ _ _ hcr21) m_872 m_874 m_17 m_41 m_875 (by decide +kernel) (by decide) gE_101 rfl hE hP hS (fun _ h => h) (fun _ _ h => h) rfl hl.1 rfl (Nat.le_of_ble_eq_true rfl) dX10_father_45 ⟨by decide, by decide⟩ ⟨Nat.zero_le _, Nat.zero_le _⟩ (fun H locs hP hS => ?_)
          refine lv_goto (tgt := 57) hx hb dX10_father_48 (by decide) ?_
          exact g_iret hx hb hr hlk hE hP hS h dX10_father_57
      · have h := g_ift c15 h
        refine lv_aload_n hx hb dX10_father_21 rfl (lv_at hl 0 rfl) ?_
        refine lv_ldc hx hb hown (ht _ m_837) dX10_father_22 ?_
        obtain ⟨r23, σ22, hcr23, h⟩ := g_bd h
        refine g_callV (As := [.int (-100001)]) (n := 1) hx hb hml hown ht (c_X10_finding l G _ _ hcr23) m_838 m_840 m_14 m_41 m_841 (by decide +kernel) (by decide) gE_101 rfl hE hP hS (fun _ h => h) (fun _ _ h => h) rfl hl.1 rfl (Nat.le_of_ble_eq_true rfl) dX10_father_24 ⟨by decide, by decide⟩ ⟨Nat.zero_le _, Nat.zero_le _⟩ (fun H locs hP hS => ?_)
        exact g_iret hx hb hr hlk hE hP hS h dX10_father_27

def M_X10_fact (a1 a2 a3 a4 a5 a6 a7 : Int32) (σ : gSt) : gO :=
  gBd (M_X10_within a1 0 1 σ) (fun r2 σ1 => if r2 = 0 then (gBd (M_X10_finding (-100001) σ1) (fun r6 σ5 => some (r6, σ5))) else (gBd (M_X10_isPerson a2 σ1) (fun r8 σ7 => if r8 = 0 then (gBd (M_X10_finding (-100001) σ7) (fun r12 σ11 => some (r12, σ11))) else (gBd (M_X10_isParish a3 σ7) (fun r14 σ13 => if r14 = 0 then (gBd (M_X10_finding (-100001) σ13) (fun r18 σ17 => some (r18, σ17))) else (if a1 = 0 then (gBd (M_X10_isDay a5 σ13) (fun r22 σ21 => if r22 = 0 then (gBd (M_X10_finding (-100001) σ21) (fun r25 σ24 => some (r25, σ24))) else (gBd (M_X10_isDay a6 σ21) (fun r27 σ26 => if r27 = 0 then (gBd (M_X10_finding (-100001) σ26) (fun r30 σ29 => some (r30, σ29))) else (gBd (M_X10_isDay a7 σ26) (fun r32 σ31 => if r32 = 0 then (gBd (M_X10_finding (-100001) σ31) (fun r76 σ75 => some (r76, σ75))) else (if a5 ≤ a6 then (gIx 549 2 (gNm ((σ31 102 (2 : Int32).toNatClampNeg) : Int32) (fun x36 => if x36 = 24 then (gBd (M_X10_finding (-100005) σ31) (fun r72 σ71 => some (r72, σ71))) else (gIx 549 ((129 : Int32) + x36) (gNm (gUp σ31 102 ((129 : Int32) + x36).toNatClampNeg a1) (fun σ39 => gIx 549 ((153 : Int32) + x36) (gNm (gUp σ39 102 ((153 : Int32) + x36).toNatClampNeg a2) (fun σ41 => gIx 549 ((177 : Int32) + x36) (gNm (gUp σ41 102 ((177 : Int32) + x36).toNatClampNeg a3) (fun σ43 => if a1 = 0 then (gIx 549 ((201 : Int32) + x36) (gNm (gUp σ43 102 ((201 : Int32) + x36).toNatClampNeg 0) (fun σ59 => gIx 549 ((225 : Int32) + x36) (gNm (gUp σ59 102 ((225 : Int32) + x36).toNatClampNeg a5) (fun σ61 => gIx 549 ((249 : Int32) + x36) (gNm (gUp σ61 102 ((249 : Int32) + x36).toNatClampNeg a6) (fun σ63 => gIx 549 ((273 : Int32) + x36) (gNm (gUp σ63 102 ((273 : Int32) + x36).toNatClampNeg a7) (fun σ65 => gIx 549 ((297 : Int32) + x36) (gNm (gUp σ65 102 ((297 : Int32) + x36).toNatClampNeg 0) (fun σ67 => gIx 549 2 (gIx 549 2 (gNm (gUp σ67 102 (2 : Int32).toNatClampNeg ((σ67 102 (2 : Int32).toNatClampNeg) + 1)) (fun σ70 => some (x36, σ70))))))))))))))) else (gIx 549 ((201 : Int32) + x36) (gNm (gUp σ43 102 ((201 : Int32) + x36).toNatClampNeg a4) (fun σ46 => gIx 549 ((225 : Int32) + x36) (gNm (gUp σ46 102 ((225 : Int32) + x36).toNatClampNeg a5) (fun σ48 => gIx 549 ((249 : Int32) + x36) (gNm (gUp σ48 102 ((249 : Int32) + x36).toNatClampNeg a6) (fun σ50 => gIx 549 ((273 : Int32) + x36) (gNm (gUp σ50 102 ((273 : Int32) + x36).toNatClampNeg a7) (fun σ52 => gIx 549 ((297 : Int32) + x36) (gNm (gUp σ52 102 ((297 : Int32) + x36).toNatClampNeg 0) (fun σ54 => gIx 549 2 (gIx 549 2 (gNm (gUp σ54 102 (2 : Int32).toNatClampNeg ((σ54 102 (2 : Int32).toNatClampNeg) + 1)) (fun σ57 => some (x36, σ57))))))))))))))))))))))))) else (gBd (M_X10_finding (-100003) σ31) (fun r74 σ73 => some (r74, σ73)))))))))) else (gBd (M_X10_within a4 0 99 σ13) (fun r78 σ77 => if r78 = 0 then (gBd (M_X10_finding (-100001) σ77) (fun r82 σ81 => some (r82, σ81))) else (gBd (M_X10_isDay a5 σ77) (fun r85 σ84 => if r85 = 0 then (gBd (M_X10_finding (-100001) σ84) (fun r88 σ87 => some (r88, σ87))) else (gBd (M_X10_isDay a6 σ84) (fun r90 σ89 => if r90 = 0 then (gBd (M_X10_finding (-100001) σ89) (fun r93 σ92 => some (r93, σ92))) else (gBd (M_X10_isDay a7 σ89) (fun r95 σ94 => if r95 = 0 then (gBd (M_X10_finding (-100001) σ94) (fun r139 σ138 => some (r139, σ138))) else (if a5 ≤ a6 then (gIx 549 2 (gNm ((σ94 102 (2 : Int32).toNatClampNeg) : Int32) (fun x99 => if x99 = 24 then (gBd (M_X10_finding (-100005) σ94) (fun r135 σ134 => some (r135, σ134))) else (gIx 549 ((129 : Int32) + x99) (gNm (gUp σ94 102 ((129 : Int32) + x99).toNatClampNeg a1) (fun σ102 => gIx 549 ((153 : Int32) + x99) (gNm (gUp σ102 102 ((153 : Int32) + x99).toNatClampNeg a2) (fun σ104 => gIx 549 ((177 : Int32) + x99) (gNm (gUp σ104 102 ((177 : Int32) + x99).toNatClampNeg a3) (fun σ106 => if a1 = 0 then (gIx 549 ((201 : Int32) + x99) (gNm (gUp σ106 102 ((201 : Int32) + x99).toNatClampNeg 0) (fun σ122 => gIx 549 ((225 : Int32) + x99) (gNm (gUp σ122 102 ((225 : Int32) + x99).toNatClampNeg a5) (fun σ124 => gIx 549 ((249 : Int32) + x99) (gNm (gUp σ124 102 ((249 : Int32) + x99).toNatClampNeg a6) (fun σ126 => gIx 549 ((273 : Int32) + x99) (gNm (gUp σ126 102 ((273 : Int32) + x99).toNatClampNeg a7) (fun σ128 => gIx 549 ((297 : Int32) + x99) (gNm (gUp σ128 102 ((297 : Int32) + x99).toNatClampNeg 0) (fun σ130 => gIx 549 2 (gIx 549 2 (gNm (gUp σ130 102 (2 : Int32).toNatClampNeg ((σ130 102 (2 : Int32).toNatClampNeg) + 1)) (fun σ133 => some (x99, σ133))))))))))))))) else (gIx 549 ((201 : Int32) + x99) (gNm (gUp σ106 102 ((201 : Int32) + x99).toNatClampNeg a4) (fun σ109 => gIx 549 ((225 : Int32) + x99) (gNm (gUp σ109 102 ((225 : Int32) + x99).toNatClampNeg a5) (fun σ111 => gIx 549 ((249 : Int32) + x99) (gNm (gUp σ111 102 ((249 : Int32) + x99).toNatClampNeg a6) (fun σ113 => gIx 549 ((273 : Int32) + x99) (gNm (gUp σ113 102 ((273 : Int32) + x99).toNatClampNeg a7) (fun σ115 => gIx 549 ((297 : Int32) + x99) (gNm (gUp σ115 102 ((297 : Int32) + x99).toNatClampNeg 0) (fun σ117 => gIx 549 2 (gIx 549 2 (gNm (gUp σ117 102 (2 : Int32).toNatClampNeg ((σ117 102 (2 : Int32).toNatClampNeg) + 1)) (fun σ120 => some (x99, σ120))))))))))))))))))))))))) else (gBd (M_X10_finding (-100003) σ94) (fun r137 σ136 => some (r137, σ136))))))))))))))))))
set_option maxHeartbeats 4000000 in
set_option maxRecDepth 100000 in
theorem c_X10_fact (l : Launch) (G : gPar) (a1 a2 a3 a4 a5 a6 a7 : Int32) (σ : gSt) {r : Int32} {σ' : gSt} (h : M_X10_fact a1 a2 a3 a4 a5 a6 a7 σ = some (r, σ')) : gC l G yX10_fact cX10_fact 10 (some .int) 2 43 [.ref (G.2.2.1 101), .int a1, .int a2, .int a3, .int a4, .int a5, .int a6, .int a7] σ r σ' := by
  refine gC_of (by decide) (Nat.le_of_ble_eq_true rfl) ?_
  intro p e s m below meth c hx hb hr ht hown hlk hml hE hP ls hl
  have hS : va_S (gA G) s.heap s.heap [] := va_S.rf
  have hl : lv_has ls 10 [(0, .ref (G.2.2.1 101)), (1, .int a1), (2, .int a2), (3, .int a3), (4, .int a4), (5, .int a5), (6, .int a6), (7, .int a7)] := hl
  unfold M_X10_fact at h
  refine lv_iload_n hx hb dX10_fact_0 rfl (lv_at hl 1 rfl) ?_
  refine lv_iconst (v := 0) hx hb dX10_fact_1 (by decide) ?_
  refine lv_iconst (v := 1) hx hb dX10_fact_2 (by decide) ?_
  obtain ⟨r2, σ1, hcr2, h⟩ := g_bd h
  refine g_callS (As := [.int a1, .int 0, .int 1]) (n := 3) hx hb hml hown ht (c_X10_within l G _ _ _ _ hcr2) m_834 m_835 m_41 m_836 (by decide +kernel) hE hP hS (fun _ h => h) (fun _ _ h => h) rfl hl.1 rfl (Nat.le_of_ble_eq_true rfl) dX10_fact_3 ⟨by decide, by decide⟩ ⟨Nat.zero_le _, Nat.zero_le _⟩ (fun H locs hP hS => ?_)
  refine lv_if_eq (tgt := 44) hx hb dX10_fact_6 (by decide) (fun c3 => ?_) (fun c3 => ?_)
  · have h := g_ift c3 h
    refine lv_iconst (v := 0) hx hb dX10_fact_44 (by decide) ?_
    refine lv_istore (lv' := [(8, .int 0), (0, .ref (G.2.2.1 101)), (1, .int a1), (2, .int a2), (3, .int a3), (4, .int a4), (5, .int a5), (6, .int a6), (7, .int a7)]) hx hb dX10_fact_45 hl (by decide) rfl (fun ls hl => ?_)
    refine lv_iload hx hb dX10_fact_47 (lv_at hl 0 rfl) ?_
    refine lv_if_eq (tgt := 76) hx hb dX10_fact_49 (by decide) (fun _ => ?_) (fun c4 => absurd (by decide) c4)
    refine lv_aload_n hx hb dX10_fact_76 rfl (lv_at hl 1 rfl) ?_
    refine lv_ldc hx hb hown (ht _ m_837) dX10_fact_77 ?_
    obtain ⟨r6, σ5, hcr6, h⟩ := g_bd h
    refine g_callV (As := [.int (-100001)]) (n := 1) hx hb hml hown ht (c_X10_finding l G _ _ hcr6) m_838 m_840 m_14 m_41 m_841 (by decide +kernel) (by decide) gE_101 rfl hE hP hS (fun _ h => h) (fun _ _ h => h) rfl hl.1 rfl (Nat.le_of_ble_eq_true rfl) dX10_fact_79 ⟨by decide, by decide⟩ ⟨Nat.zero_le _, Nat.zero_le _⟩ (fun H locs hP hS => ?_)
    exact g_iret hx hb hr hlk hE hP hS h dX10_fact_82
  · have h := g_iff c3 h
    refine lv_aload_n hx hb dX10_fact_9 rfl (lv_at hl 0 rfl) ?_
    refine lv_iload_n hx hb dX10_fact_10 rfl (lv_at hl 2 rfl) ?_
    obtain ⟨r8, σ7, hcr8, h⟩ := g_bd h
    refine g_callV (As := [.int a2]) (n := 1) hx hb hml hown ht (c_X10_isPerson l G _ _ hcr8) m_863 m_865 m_16 m_41 m_866 (by decide +kernel) (by decide) gE_101 rfl hE hP hS (fun _ h => h) (fun _ _ h => h) rfl hl.1 rfl (Nat.le_of_ble_eq_true rfl) dX10_fact_11 ⟨by decide, by decide⟩ ⟨Nat.zero_le _, Nat.zero_le _⟩ (fun H locs hP hS => ?_)
    refine lv_if_eq (tgt := 44) hx hb dX10_fact_14 (by decide) (fun c9 => ?_) (fun c9 => ?_)
    · have h := g_ift c9 h
      refine lv_iconst (v := 0) hx hb dX10_fact_44 (by decide) ?_
      refine lv_istore (lv' := [(8, .int 0), (0, .ref (G.2.2.1 101)), (1, .int a1), (2, .int a2), (3, .int a3), (4, .int a4), (5, .int a5), (6, .int a6), (7, .int a7)]) hx hb dX10_fact_45 hl (by decide) rfl (fun ls hl => ?_)
      refine lv_iload hx hb dX10_fact_47 (lv_at hl 0 rfl) ?_
      refine lv_if_eq (tgt := 76) hx hb dX10_fact_49 (by decide) (fun _ => ?_) (fun c10 => absurd (by decide) c10)
      refine lv_aload_n hx hb dX10_fact_76 rfl (lv_at hl 1 rfl) ?_
      refine lv_ldc hx hb hown (ht _ m_837) dX10_fact_77 ?_
      obtain ⟨r12, σ11, hcr12, h⟩ := g_bd h
      refine g_callV (As := [.int (-100001)]) (n := 1) hx hb hml hown ht (c_X10_finding l G _ _ hcr12) m_838 m_840 m_14 m_41 m_841 (by decide +kernel) (by decide) gE_101 rfl hE hP hS (fun _ h => h) (fun _ _ h => h) rfl hl.1 rfl (Nat.le_of_ble_eq_true rfl) dX10_fact_79 ⟨by decide, by decide⟩ ⟨Nat.zero_le _, Nat.zero_le _⟩ (fun H locs hP hS => ?_)
      exact g_iret hx hb hr hlk hE hP hS h dX10_fact_82
    · have h := g_iff c9 h
      refine lv_aload_n hx hb dX10_fact_17 rfl (lv_at hl 0 rfl) ?_
      refine lv_iload_n hx hb dX10_fact_18 rfl (lv_at hl 3 rfl) ?_
      obtain ⟨r14, σ13, hcr14, h⟩ := g_bd h
      refine g_callV (As := [.int a3]) (n := 1) hx hb hml hown ht (c_X10_isParish l G _ _ hcr14) m_847 m_849 m_15 m_41 m_850 (by decide +kernel) (by decide) gE_101 rfl hE hP hS (fun _ h => h) (fun _ _ h => h) rfl hl.1 rfl (Nat.le_of_ble_eq_true rfl) dX10_fact_19 ⟨by decide, by decide⟩ ⟨Nat.zero_le _, Nat.zero_le _⟩ (fun H locs hP hS => ?_)
      refine lv_if_eq (tgt := 44) hx hb dX10_fact_22 (by decide) (fun c15 => ?_) (fun c15 => ?_)
      · have h := g_ift c15 h
        refine lv_iconst (v := 0) hx hb dX10_fact_44 (by decide) ?_
        refine lv_istore (lv' := [(8, .int 0), (0, .ref (G.2.2.1 101)), (1, .int a1), (2, .int a2), (3, .int a3), (4, .int a4), (5, .int a5), (6, .int a6), (7, .int a7)]) hx hb dX10_fact_45 hl (by decide) rfl (fun ls hl => ?_)
        refine lv_iload hx hb dX10_fact_47 (lv_at hl 0 rfl) ?_
        refine lv_if_eq (tgt := 76) hx hb dX10_fact_49 (by decide) (fun _ => ?_) (fun c16 => absurd (by decide) c16)
        refine lv_aload_n hx hb dX10_fact_76 rfl (lv_at hl 1 rfl) ?_
        refine lv_ldc hx hb hown (ht _ m_837) dX10_fact_77 ?_
        obtain ⟨r18, σ17, hcr18, h⟩ := g_bd h
        refine g_callV (As := [.int (-100001)]) (n := 1) hx hb hml hown ht (c_X10_finding l G _ _ hcr18) m_838 m_840 m_14 m_41 m_841 (by decide +kernel) (by decide) gE_101 rfl hE hP hS (fun _ h => h) (fun _ _ h => h) rfl hl.1 rfl (Nat.le_of_ble_eq_true rfl) dX10_fact_79 ⟨by decide, by decide⟩ ⟨Nat.zero_le _, Nat.zero_le _⟩ (fun H locs hP hS => ?_)
        exact g_iret hx hb hr hlk hE hP hS h dX10_fact_82
      · have h := g_iff c15 h
        refine lv_iload_n hx hb dX10_fact_25 rfl (lv_at hl 1 rfl) ?_
        refine lv_if_eq (tgt := 40) hx hb dX10_fact_26 (by decide) (fun c19 => ?_) (fun c19 => ?_)
        · have h := g_ift c19 h
          refine lv_iconst (v := 1) hx hb dX10_fact_40 (by decide) ?_
          refine lv_goto (tgt := 45) hx hb dX10_fact_41 (by decide) ?_
          refine lv_istore (lv' := [(8, .int 1), (0, .ref (G.2.2.1 101)), (1, .int a1), (2, .int a2), (3, .int a3), (4, .int a4), (5, .int a5), (6, .int a6), (7, .int a7)]) hx hb dX10_fact_45 hl (by decide) rfl (fun ls hl => ?_)
          refine lv_iload hx hb dX10_fact_47 (lv_at hl 0 rfl) ?_
          refine lv_if_eq (tgt := 76) hx hb dX10_fact_49 (by decide) (fun c20 => absurd c20 (by decide)) (fun _ => ?_)
          refine lv_iload hx hb dX10_fact_52 (lv_at hl 6 rfl) ?_
          obtain ⟨r22, σ21, hcr22, h⟩ := g_bd h
          refine g_callS (As := [.int a5]) (n := 1) hx hb hml hown ht (c_X10_isDay l G _ _ hcr22) m_856 m_857 m_41 m_858 (by decide +kernel) hE hP hS (fun _ h => h) (fun _ _ h => h) rfl hl.1 rfl (Nat.le_of_ble_eq_true rfl) dX10_fact_54 ⟨by decide, by decide⟩ ⟨Nat.zero_le _, Nat.zero_le _⟩ (fun H locs hP hS => ?_)
          refine lv_if_eq (tgt := 76) hx hb dX10_fact_57 (by decide) (fun c23 => ?_) (fun c23 => ?_)
          · have h := g_ift c23 h
            refine lv_aload_n hx hb dX10_fact_76 rfl (lv_at hl 1 rfl) ?_
            refine lv_ldc hx hb hown (ht _ m_837) dX10_fact_77 ?_
            obtain ⟨r25, σ24, hcr25, h⟩ := g_bd h
            refine g_callV (As := [.int (-100001)]) (n := 1) hx hb hml hown ht (c_X10_finding l G _ _ hcr25) m_838 m_840 m_14 m_41 m_841 (by decide +kernel) (by decide) gE_101 rfl hE hP hS (fun _ h => h) (fun _ _ h => h) rfl hl.1 rfl (Nat.le_of_ble_eq_true rfl) dX10_fact_79 ⟨by decide, by decide⟩ ⟨Nat.zero_le _, Nat.zero_le _⟩ (fun H locs hP hS => ?_)
            exact g_iret hx hb hr hlk hE hP hS h dX10_fact_82
          · have h := g_iff c23 h
            refine lv_iload hx hb dX10_fact_60 (lv_at hl 7 rfl) ?_
            obtain ⟨r27, σ26, hcr27, h⟩ := g_bd h
            refine g_callS (As := [.int a6]) (n := 1) hx hb hml hown ht (c_X10_isDay l G _ _ hcr27) m_856 m_857 m_41 m_858 (by decide +kernel) hE hP hS (fun _ h => h) (fun _ _ h => h) rfl hl.1 rfl (Nat.le_of_ble_eq_true rfl) dX10_fact_62 ⟨by decide, by decide⟩ ⟨Nat.zero_le _, Nat.zero_le _⟩ (fun H locs hP hS => ?_)
            refine lv_if_eq (tgt := 76) hx hb dX10_fact_65 (by decide) (fun c28 => ?_) (fun c28 => ?_)
            · have h := g_ift c28 h
              refine lv_aload_n hx hb dX10_fact_76 rfl (lv_at hl 1 rfl) ?_
              refine lv_ldc hx hb hown (ht _ m_837) dX10_fact_77 ?_
              obtain ⟨r30, σ29, hcr30, h⟩ := g_bd h
              refine g_callV (As := [.int (-100001)]) (n := 1) hx hb hml hown ht (c_X10_finding l G _ _ hcr30) m_838 m_840 m_14 m_41 m_841 (by decide +kernel) (by decide) gE_101 rfl hE hP hS (fun _ h => h) (fun _ _ h => h) rfl hl.1 rfl (Nat.le_of_ble_eq_true rfl) dX10_fact_79 ⟨by decide, by decide⟩ ⟨Nat.zero_le _, Nat.zero_le _⟩ (fun H locs hP hS => ?_)
              exact g_iret hx hb hr hlk hE hP hS h dX10_fact_82
            · have h := g_iff c28 h
              refine lv_iload hx hb dX10_fact_68 (lv_at hl 8 rfl) ?_
              obtain ⟨r32, σ31, hcr32, h⟩ := g_bd h
              refine g_callS (As := [.int a7]) (n := 1) hx hb hml hown ht (c_X10_isDay l G _ _ hcr32) m_856 m_857 m_41 m_858 (by decide +kernel) hE hP hS (fun _ h => h) (fun _ _ h => h) rfl hl.1 rfl (Nat.le_of_ble_eq_true rfl) dX10_fact_70 ⟨by decide, by decide⟩ ⟨Nat.zero_le _, Nat.zero_le _⟩ (fun H locs hP hS => ?_)
              refine lv_if_ne (tgt := 83) hx hb dX10_fact_73 (by decide) (fun c33 => ?_) (fun c33 => ?_)
              · have h := g_iff c33 h
                refine lv_iload hx hb dX10_fact_83 (lv_at hl 6 rfl) ?_
                refine lv_iload hx hb dX10_fact_85 (lv_at hl 7 rfl) ?_
                refine lv_icmp_le (tgt := 97) hx hb dX10_fact_87 (by decide) (fun c34 => ?_) (fun c34 => ?_)
                · have h := g_ift c34 h
                  refine lv_aload_n hx hb dX10_fact_97 rfl (lv_at hl 1 rfl) ?_
                  refine g_get hx hb ht hown hE hP (by decide) gE_101 uX10 rfl 0 (by decide) m_790 rfl rfl dX10_fact_98 ?_
                  refine lv_iconst (v := 2) hx hb dX10_fact_101 (by decide) ?_
                  obtain ⟨i35, h⟩ := g_ix h
                  refine g_iald hx hb hE hP (by decide) rfl (by decide) i35 dX10_fact_102 ?_
                  refine lv_topi (fun x36 ex36 => ?_)
                  have h := g_nm ex36 h
                  refine lv_istore (lv' := [(9, .int x36), (8, .int 1), (0, .ref (G.2.2.1 101)), (1, .int a1), (2, .int a2), (3, .int a3), (4, .int a4), (5, .int a5), (6, .int a6), (7, .int a7)]) hx hb dX10_fact_103 hl (by decide) rfl (fun ls hl => ?_)
                  refine lv_iload hx hb dX10_fact_105 (lv_at hl 0 rfl) ?_
                  refine lv_bipush (v := 24) hx hb dX10_fact_107 (by decide) ?_
                  refine lv_icmp_ne (tgt := 119) hx hb dX10_fact_109 (by decide) (fun c37 => ?_) (fun c37 => ?_)
                  · have h := g_iff c37 h
                    refine lv_aload_n hx hb dX10_fact_119 rfl (lv_at hl 2 rfl) ?_
                    refine g_get hx hb ht hown hE hP (by decide) gE_101 uX10 rfl 0 (by decide) m_790 rfl rfl dX10_fact_120 ?_
                    refine lv_sipush (v := 129) hx hb dX10_fact_123 (by decide) ?_
                    refine lv_iload hx hb dX10_fact_126 (lv_at hl 0 rfl) ?_
                    refine lv_iadd hx hb dX10_fact_128 ?_
                    refine lv_iload_n hx hb dX10_fact_129 rfl (lv_at hl 3 rfl) ?_
                    obtain ⟨i38, h⟩ := g_ix h
                    refine g_iast hx hb hE hP hS (by decide) rfl (by decide) i38 dX10_fact_130 (fun H locs σ39 eσ39 hP hS => ?_)
                    have h := g_nm eσ39 h
                    refine lv_aload_n hx hb dX10_fact_131 rfl (lv_at hl 2 rfl) ?_
                    refine g_get hx hb ht hown hE hP (by decide) gE_101 uX10 rfl 0 (by decide) m_790 rfl rfl dX10_fact_132 ?_
                    refine lv_sipush (v := 153) hx hb dX10_fact_135 (by decide) ?_
                    refine lv_iload hx hb dX10_fact_138 (lv_at hl 0 rfl) ?_
                    refine lv_iadd hx hb dX10_fact_140 ?_
                    refine lv_iload_n hx hb dX10_fact_141 rfl (lv_at hl 4 rfl) ?_
                    obtain ⟨i40, h⟩ := g_ix h
                    refine g_iast hx hb hE hP hS (by decide) rfl (by decide) i40 dX10_fact_142 (fun H locs σ41 eσ41 hP hS => ?_)
                    have h := g_nm eσ41 h
                    refine lv_aload_n hx hb dX10_fact_143 rfl (lv_at hl 2 rfl) ?_
                    refine g_get hx hb ht hown hE hP (by decide) gE_101 uX10 rfl 0 (by decide) m_790 rfl rfl dX10_fact_144 ?_
                    refine lv_sipush (v := 177) hx hb dX10_fact_147 (by decide) ?_
                    refine lv_iload hx hb dX10_fact_150 (lv_at hl 0 rfl) ?_
                    refine lv_iadd hx hb dX10_fact_152 ?_
                    refine lv_iload_n hx hb dX10_fact_153 rfl (lv_at hl 5 rfl) ?_
                    obtain ⟨i42, h⟩ := g_ix h
                    refine g_iast hx hb hE hP hS (by decide) rfl (by decide) i42 dX10_fact_154 (fun H locs σ43 eσ43 hP hS => ?_)
                    have h := g_nm eσ43 h
                    refine lv_aload_n hx hb dX10_fact_155 rfl (lv_at hl 2 rfl) ?_
                    refine g_get hx hb ht hown hE hP (by decide) gE_101 uX10 rfl 0 (by decide) m_790 rfl rfl dX10_fact_156 ?_
                    refine lv_sipush (v := 201) hx hb dX10_fact_159 (by decide) ?_
                    refine lv_iload hx hb dX10_fact_162 (lv_at hl 0 rfl) ?_
                    refine lv_iadd hx hb dX10_fact_164 ?_
                    refine lv_iload_n hx hb dX10_fact_165 rfl (lv_at hl 3 rfl) ?_
                    refine lv_if_ne (tgt := 173) hx hb dX10_fact_166 (by decide) (fun c44 => ?_) (fun c44 => ?_)
                    · have h := g_iff c44 h
                      refine lv_iload hx hb dX10_fact_173 (lv_at hl 6 rfl) ?_
                      obtain ⟨i45, h⟩ := g_ix h
                      refine g_iast hx hb hE hP hS (by decide) rfl (by decide) i45 dX10_fact_175 (fun H locs σ46 eσ46 hP hS => ?_)
                      have h := g_nm eσ46 h
                      refine lv_aload_n hx hb dX10_fact_176 rfl (lv_at hl 2 rfl) ?_
                      refine g_get hx hb ht hown hE hP (by decide) gE_101 uX10 rfl 0 (by decide) m_790 rfl rfl dX10_fact_177 ?_
                      refine lv_sipush (v := 225) hx hb dX10_fact_180 (by decide) ?_
                      refine lv_iload hx hb dX10_fact_183 (lv_at hl 0 rfl) ?_
                      refine lv_iadd hx hb dX10_fact_185 ?_
                      refine lv_iload hx hb dX10_fact_186 (lv_at hl 7 rfl) ?_
                      obtain ⟨i47, h⟩ := g_ix h
                      refine g_iast hx hb hE hP hS (by decide) rfl (by decide) i47 dX10_fact_188 (fun H locs σ48 eσ48 hP hS => ?_)
                      have h := g_nm eσ48 h
                      refine lv_aload_n hx hb dX10_fact_189 rfl (lv_at hl 2 rfl) ?_
                      refine g_get hx hb ht hown hE hP (by decide) gE_101 uX10 rfl 0 (by decide) m_790 rfl rfl dX10_fact_190 ?_
                      refine lv_sipush (v := 249) hx hb dX10_fact_193 (by decide) ?_
                      refine lv_iload hx hb dX10_fact_196 (lv_at hl 0 rfl) ?_
                      refine lv_iadd hx hb dX10_fact_198 ?_
                      refine lv_iload hx hb dX10_fact_199 (lv_at hl 8 rfl) ?_
                      obtain ⟨i49, h⟩ := g_ix h
                      refine g_iast hx hb hE hP hS (by decide) rfl (by decide) i49 dX10_fact_201 (fun H locs σ50 eσ50 hP hS => ?_)
                      have h := g_nm eσ50 h
                      refine lv_aload_n hx hb dX10_fact_202 rfl (lv_at hl 2 rfl) ?_
                      refine g_get hx hb ht hown hE hP (by decide) gE_101 uX10 rfl 0 (by decide) m_790 rfl rfl dX10_fact_203 ?_
                      refine lv_sipush (v := 273) hx hb dX10_fact_206 (by decide) ?_
                      refine lv_iload hx hb dX10_fact_209 (lv_at hl 0 rfl) ?_
                      refine lv_iadd hx hb dX10_fact_211 ?_
                      refine lv_iload hx hb dX10_fact_212 (lv_at hl 9 rfl) ?_
                      obtain ⟨i51, h⟩ := g_ix h
                      refine g_iast hx hb hE hP hS (by decide) rfl (by decide) i51 dX10_fact_214 (fun H locs σ52 eσ52 hP hS => ?_)
                      have h := g_nm eσ52 h
                      refine lv_aload_n hx hb dX10_fact_215 rfl (lv_at hl 2 rfl) ?_
                      refine g_get hx hb ht hown hE hP (by decide) gE_101 uX10 rfl 0 (by decide) m_790 rfl rfl dX10_fact_216 ?_
                      refine lv_sipush (v := 297) hx hb dX10_fact_219 (by decide) ?_
                      refine lv_iload hx hb dX10_fact_222 (lv_at hl 0 rfl) ?_
                      refine lv_iadd hx hb dX10_fact_224 ?_
                      refine lv_iconst (v := 0) hx hb dX10_fact_225 (by decide) ?_
                      obtain ⟨i53, h⟩ := g_ix h
                      refine g_iast hx hb hE hP hS (by decide) rfl (by decide) i53 dX10_fact_226 (fun H locs σ54 eσ54 hP hS => ?_)
                      have h := g_nm eσ54 h
                      refine lv_aload_n hx hb dX10_fact_227 rfl (lv_at hl 2 rfl) ?_
                      refine g_get hx hb ht hown hE hP (by decide) gE_101 uX10 rfl 0 (by decide) m_790 rfl rfl dX10_fact_228 ?_
                      refine lv_iconst (v := 2) hx hb dX10_fact_231 (by decide) ?_
                      refine lv_dup2_11 hx hb dX10_fact_232 rfl rfl ?_
                      obtain ⟨i55, h⟩ := g_ix h
                      refine g_iald hx hb hE hP (by decide) rfl (by decide) i55 dX10_fact_233 ?_
                      refine lv_iconst (v := 1) hx hb dX10_fact_234 (by decide) ?_
                      refine lv_iadd hx hb dX10_fact_235 ?_
                      obtain ⟨i56, h⟩ := g_ix h
                      refine g_iast hx hb hE hP hS (by decide) rfl (by decide) i56 dX10_fact_236 (fun H locs σ57 eσ57 hP hS => ?_)
                      have h := g_nm eσ57 h
                      refine lv_iload hx hb dX10_fact_237 (lv_at hl 0 rfl) ?_
                      exact g_iret hx hb hr hlk hE hP hS h dX10_fact_239
                    · have h := g_ift c44 h
                      refine lv_iconst (v := 0) hx hb dX10_fact_169 (by decide) ?_
                      refine lv_goto (tgt := 175) hx hb dX10_fact_170 (by decide) ?_
                      obtain ⟨i58, h⟩ := g_ix h
                      refine g_iast hx hb hE hP hS (by decide) rfl (by decide) i58 dX10_fact_175 (fun H locs σ59 eσ59 hP hS => ?_)
                      have h := g_nm eσ59 h
                      refine lv_aload_n hx hb dX10_fact_176 rfl (lv_at hl 2 rfl) ?_
                      refine g_get hx hb ht hown hE hP (by decide) gE_101 uX10 rfl 0 (by decide) m_790 rfl rfl dX10_fact_177 ?_
                      refine lv_sipush (v := 225) hx hb dX10_fact_180 (by decide) ?_
                      refine lv_iload hx hb dX10_fact_183 (lv_at hl 0 rfl) ?_
                      refine lv_iadd hx hb dX10_fact_185 ?_
                      refine lv_iload hx hb dX10_fact_186 (lv_at hl 7 rfl) ?_
                      obtain ⟨i60, h⟩ := g_ix h
                      refine g_iast hx hb hE hP hS (by decide) rfl (by decide) i60 dX10_fact_188 (fun H locs σ61 eσ61 hP hS => ?_)
                      have h := g_nm eσ61 h
                      refine lv_aload_n hx hb dX10_fact_189 rfl (lv_at hl 2 rfl) ?_
                      refine g_get hx hb ht hown hE hP (by decide) gE_101 uX10 rfl 0 (by decide) m_790 rfl rfl dX10_fact_190 ?_
                      refine lv_sipush (v := 249) hx hb dX10_fact_193 (by decide) ?_
                      refine lv_iload hx hb dX10_fact_196 (lv_at hl 0 rfl) ?_
                      refine lv_iadd hx hb dX10_fact_198 ?_
                      refine lv_iload hx hb dX10_fact_199 (lv_at hl 8 rfl) ?_
                      obtain ⟨i62, h⟩ := g_ix h
                      refine g_iast hx hb hE hP hS (by decide) rfl (by decide) i62 dX10_fact_201 (fun H locs σ63 eσ63 hP hS => ?_)
                      have h := g_nm eσ63 h
                      refine lv_aload_n hx hb dX10_fact_202 rfl (lv_at hl 2 rfl) ?_
                      refine g_get hx hb ht hown hE hP (by decide) gE_101 uX10 rfl 0 (by decide) m_790 rfl rfl dX10_fact_203 ?_
                      refine lv_sipush (v := 273) hx hb dX10_fact_206 (by decide) ?_
                      refine lv_iload hx hb dX10_fact_209 (lv_at hl 0 rfl) ?_
                      refine lv_iadd hx hb dX10_fact_211 ?_
                      refine lv_iload hx hb dX10_fact_212 (lv_at hl 9 rfl) ?_
                      obtain ⟨i64, h⟩ := g_ix h
                      refine g_iast hx hb hE hP hS (by decide) rfl (by decide) i64 dX10_fact_214 (fun H locs σ65 eσ65 hP hS => ?_)
                      have h := g_nm eσ65 h
                      refine lv_aload_n hx hb dX10_fact_215 rfl (lv_at hl 2 rfl) ?_
                      refine g_get hx hb ht hown hE hP (by decide) gE_101 uX10 rfl 0 (by decide) m_790 rfl rfl dX10_fact_216 ?_
                      refine lv_sipush (v := 297) hx hb dX10_fact_219 (by decide) ?_
                      refine lv_iload hx hb dX10_fact_222 (lv_at hl 0 rfl) ?_
                      refine lv_iadd hx hb dX10_fact_224 ?_
                      refine lv_iconst (v := 0) hx hb dX10_fact_225 (by decide) ?_
                      obtain ⟨i66, h⟩ := g_ix h
                      refine g_iast hx hb hE hP hS (by decide) rfl (by decide) i66 dX10_fact_226 (fun H locs σ67 eσ67 hP hS => ?_)
                      have h := g_nm eσ67 h
                      refine lv_aload_n hx hb dX10_fact_227 rfl (lv_at hl 2 rfl) ?_
                      refine g_get hx hb ht hown hE hP (by decide) gE_101 uX10 rfl 0 (by decide) m_790 rfl rfl dX10_fact_228 ?_
                      refine lv_iconst (v := 2) hx hb dX10_fact_231 (by decide) ?_
                      refine lv_dup2_11 hx hb dX10_fact_232 rfl rfl ?_
                      obtain ⟨i68, h⟩ := g_ix h
                      refine g_iald hx hb hE hP (by decide) rfl (by decide) i68 dX10_fact_233 ?_
                      refine lv_iconst (v := 1) hx hb dX10_fact_234 (by decide) ?_
                      refine lv_iadd hx hb dX10_fact_235 ?_
                      obtain ⟨i69, h⟩ := g_ix h
                      refine g_iast hx hb hE hP hS (by decide) rfl (by decide) i69 dX10_fact_236 (fun H locs σ70 eσ70 hP hS => ?_)
                      have h := g_nm eσ70 h
                      refine lv_iload hx hb dX10_fact_237 (lv_at hl 0 rfl) ?_
                      exact g_iret hx hb hr hlk hE hP hS h dX10_fact_239
                  · have h := g_ift c37 h
                    refine lv_aload_n hx hb dX10_fact_112 rfl (lv_at hl 2 rfl) ?_
                    refine lv_ldc hx hb hown (ht _ m_842) dX10_fact_113 ?_
                    obtain ⟨r72, σ71, hcr72, h⟩ := g_bd h
                    refine g_callV (As := [.int (-100005)]) (n := 1) hx hb hml hown ht (c_X10_finding l G _ _ hcr72) m_838 m_840 m_14 m_41 m_841 (by decide +kernel) (by decide) gE_101 rfl hE hP hS (fun _ h => h) (fun _ _ h => h) rfl hl.1 rfl (Nat.le_of_ble_eq_true rfl) dX10_fact_115 ⟨by decide, by decide⟩ ⟨Nat.zero_le _, Nat.zero_le _⟩ (fun H locs hP hS => ?_)
                    exact g_iret hx hb hr hlk hE hP hS h dX10_fact_118
                · have h := g_iff c34 h
                  refine lv_aload_n hx hb dX10_fact_90 rfl (lv_at hl 1 rfl) ?_
                  refine lv_ldc hx hb hown (ht _ m_851) dX10_fact_91 ?_
                  obtain ⟨r74, σ73, hcr74, h⟩ := g_bd h
                  refine g_callV (As := [.int (-100003)]) (n := 1) hx hb hml hown ht (c_X10_finding l G _ _ hcr74) m_838 m_840 m_14 m_41 m_841 (by decide +kernel) (by decide) gE_101 rfl hE hP hS (fun _ h => h) (fun _ _ h => h) rfl hl.1 rfl (Nat.le_of_ble_eq_true rfl) dX10_fact_93 ⟨by decide, by decide⟩ ⟨Nat.zero_le _, Nat.zero_le _⟩ (fun H locs hP hS => ?_)
                  exact g_iret hx hb hr hlk hE hP hS h dX10_fact_96
              · have h := g_ift c33 h
                refine lv_aload_n hx hb dX10_fact_76 rfl (lv_at hl 1 rfl) ?_
                refine lv_ldc hx hb hown (ht _ m_837) dX10_fact_77 ?_
                obtain ⟨r76, σ75, hcr76, h⟩ := g_bd h
                refine g_callV (As := [.int (-100001)]) (n := 1) hx hb hml hown ht (c_X10_finding l G _ _ hcr76) m_838 m_840 m_14 m_41 m_841 (by decide +kernel) (by decide) gE_101 rfl hE hP hS (fun _ h => h) (fun _ _ h => h) rfl hl.1 rfl (Nat.le_of_ble_eq_true rfl) dX10_fact_79 ⟨by decide, by decide⟩ ⟨Nat.zero_le _, Nat.zero_le _⟩ (fun H locs hP hS => ?_)
                exact g_iret hx hb hr hlk hE hP hS h dX10_fact_82
        · have h := g_iff c19 h
          refine lv_iload hx hb dX10_fact_29 (lv_at hl 4 rfl) ?_
          refine lv_iconst (v := 0) hx hb dX10_fact_31 (by decide) ?_
          refine lv_bipush (v := 99) hx hb dX10_fact_32 (by decide) ?_
          obtain ⟨r78, σ77, hcr78, h⟩ := g_bd h
          refine g_callS (As := [.int a4, .int 0, .int 99]) (n := 3) hx hb hml hown ht (c_X10_within l G _ _ _ _ hcr78) m_834 m_835 m_41 m_836 (by decide +kernel) hE hP hS (fun _ h => h) (fun _ _ h => h) rfl hl.1 rfl (Nat.le_of_ble_eq_true rfl) dX10_fact_34 ⟨by decide, by decide⟩ ⟨Nat.zero_le _, Nat.zero_le _⟩ (fun H locs hP hS => ?_)
          refine lv_if_eq (tgt := 44) hx hb dX10_fact_37 (by decide) (fun c79 => ?_) (fun c79 => ?_)
          · have h := g_ift c79 h
            refine lv_iconst (v := 0) hx hb dX10_fact_44 (by decide) ?_
            refine lv_istore (lv' := [(8, .int 0), (0, .ref (G.2.2.1 101)), (1, .int a1), (2, .int a2), (3, .int a3), (4, .int a4), (5, .int a5), (6, .int a6), (7, .int a7)]) hx hb dX10_fact_45 hl (by decide) rfl (fun ls hl => ?_)
            refine lv_iload hx hb dX10_fact_47 (lv_at hl 0 rfl) ?_
            refine lv_if_eq (tgt := 76) hx hb dX10_fact_49 (by decide) (fun _ => ?_) (fun c80 => absurd (by decide) c80)
            refine lv_aload_n hx hb dX10_fact_76 rfl (lv_at hl 1 rfl) ?_
            refine lv_ldc hx hb hown (ht _ m_837) dX10_fact_77 ?_
            obtain ⟨r82, σ81, hcr82, h⟩ := g_bd h
            refine g_callV (As := [.int (-100001)]) (n := 1) hx hb hml hown ht (c_X10_finding l G _ _ hcr82) m_838 m_840 m_14 m_41 m_841 (by decide +kernel) (by decide) gE_101 rfl hE hP hS (fun _ h => h) (fun _ _ h => h) rfl hl.1 rfl (Nat.le_of_ble_eq_true rfl) dX10_fact_79 ⟨by decide, by decide⟩ ⟨Nat.zero_le _, Nat.zero_le _⟩ (fun H locs hP hS => ?_)
            exact g_iret hx hb hr hlk hE hP hS h dX10_fact_82
          · have h := g_iff c79 h
            refine lv_iconst (v := 1) hx hb dX10_fact_40 (by decide) ?_
            refine lv_goto (tgt := 45) hx hb dX10_fact_41 (by decide) ?_
            refine lv_istore (lv' := [(8, .int 1), (0, .ref (G.2.2.1 101)), (1, .int a1), (2, .int a2), (3, .int a3), (4, .int a4), (5, .int a5), (6, .int a6), (7, .int a7)]) hx hb dX10_fact_45 hl (by decide) rfl (fun ls hl => ?_)
            refine lv_iload hx hb dX10_fact_47 (lv_at hl 0 rfl) ?_
            refine lv_if_eq (tgt := 76) hx hb dX10_fact_49 (by decide) (fun c83 => absurd c83 (by decide)) (fun _ => ?_)
            refine lv_iload hx hb dX10_fact_52 (lv_at hl 6 rfl) ?_
            obtain ⟨r85, σ84, hcr85, h⟩ := g_bd h
            refine g_callS (As := [.int a5]) (n := 1) hx hb hml hown ht (c_X10_isDay l G _ _ hcr85) m_856 m_857 m_41 m_858 (by decide +kernel) hE hP hS (fun _ h => h) (fun _ _ h => h) rfl hl.1 rfl (Nat.le_of_ble_eq_true rfl) dX10_fact_54 ⟨by decide, by decide⟩ ⟨Nat.zero_le _, Nat.zero_le _⟩ (fun H locs hP hS => ?_)
            refine lv_if_eq (tgt := 76) hx hb dX10_fact_57 (by decide) (fun c86 => ?_) (fun c86 => ?_)
            · have h := g_ift c86 h
              refine lv_aload_n hx hb dX10_fact_76 rfl (lv_at hl 1 rfl) ?_
              refine lv_ldc hx hb hown (ht _ m_837) dX10_fact_77 ?_
              obtain ⟨r88, σ87, hcr88, h⟩ := g_bd h
              refine g_callV (As := [.int (-100001)]) (n := 1) hx hb hml hown ht (c_X10_finding l G _ _ hcr88) m_838 m_840 m_14 m_41 m_841 (by decide +kernel) (by decide) gE_101 rfl hE hP hS (fun _ h => h) (fun _ _ h => h) rfl hl.1 rfl (Nat.le_of_ble_eq_true rfl) dX10_fact_79 ⟨by decide, by decide⟩ ⟨Nat.zero_le _, Nat.zero_le _⟩ (fun H locs hP hS => ?_)
              exact g_iret hx hb hr hlk hE hP hS h dX10_fact_82
            · have h := g_iff c86 h
              refine lv_iload hx hb dX10_fact_60 (lv_at hl 7 rfl) ?_
              obtain ⟨r90, σ89, hcr90, h⟩ := g_bd h
              refine g_callS (As := [.int a6]) (n := 1) hx hb hml hown ht (c_X10_isDay l G _ _ hcr90) m_856 m_857 m_41 m_858 (by decide +kernel) hE hP hS (fun _ h => h) (fun _ _ h => h) rfl hl.1 rfl (Nat.le_of_ble_eq_true rfl) dX10_fact_62 ⟨by decide, by decide⟩ ⟨Nat.zero_le _, Nat.zero_le _⟩ (fun H locs hP hS => ?_)
              refine lv_if_eq (tgt := 76) hx hb dX10_fact_65 (by decide) (fun c91 => ?_) (fun c91 => ?_)
              · have h := g_ift c91 h
                refine lv_aload_n hx hb dX10_fact_76 rfl (lv_at hl 1 rfl) ?_
                refine lv_ldc hx hb hown (ht _ m_837) dX10_fact_77 ?_
                obtain ⟨r93, σ92, hcr93, h⟩ := g_bd h
                refine g_callV (As := [.int (-100001)]) (n := 1) hx hb hml hown ht (c_X10_finding l G _ _ hcr93) m_838 m_840 m_14 m_41 m_841 (by decide +kernel) (by decide) gE_101 rfl hE hP hS (fun _ h => h) (fun _ _ h => h) rfl hl.1 rfl (Nat.le_of_ble_eq_true rfl) dX10_fact_79 ⟨by decide, by decide⟩ ⟨Nat.zero_le _, Nat.zero_le _⟩ (fun H locs hP hS => ?_)
                exact g_iret hx hb hr hlk hE hP hS h dX10_fact_82
              · have h := g_iff c91 h
                refine lv_iload hx hb dX10_fact_68 (lv_at hl 8 rfl) ?_
                obtain ⟨r95, σ94, hcr95, h⟩ := g_bd h
                refine g_callS (As := [.int a7]) (n := 1) hx hb hml hown ht (c_X10_isDay l G _ _ hcr95) m_856 m_857 m_41 m_858 (by decide +kernel) hE hP hS (fun _ h => h) (fun _ _ h => h) rfl hl.1 rfl (Nat.le_of_ble_eq_true rfl) dX10_fact_70 ⟨by decide, by decide⟩ ⟨Nat.zero_le _, Nat.zero_le _⟩ (fun H locs hP hS => ?_)
                refine lv_if_ne (tgt := 83) hx hb dX10_fact_73 (by decide) (fun c96 => ?_) (fun c96 => ?_)
                · have h := g_iff c96 h
                  refine lv_iload hx hb dX10_fact_83 (lv_at hl 6 rfl) ?_
                  refine lv_iload hx hb dX10_fact_85 (lv_at hl 7 rfl) ?_
                  refine lv_icmp_le (tgt := 97) hx hb dX10_fact_87 (by decide) (fun c97 => ?_) (fun c97 => ?_)
                  · have h := g_ift c97 h
                    refine lv_aload_n hx hb dX10_fact_97 rfl (lv_at hl 1 rfl) ?_
                    refine g_get hx hb ht hown hE hP (by decide) gE_101 uX10 rfl 0 (by decide) m_790 rfl rfl dX10_fact_98 ?_
                    refine lv_iconst (v := 2) hx hb dX10_fact_101 (by decide) ?_
                    obtain ⟨i98, h⟩ := g_ix h
                    refine g_iald hx hb hE hP (by decide) rfl (by decide) i98 dX10_fact_102 ?_
                    refine lv_topi (fun x99 ex99 => ?_)
                    have h := g_nm ex99 h
                    refine lv_istore (lv' := [(9, .int x99), (8, .int 1), (0, .ref (G.2.2.1 101)), (1, .int a1), (2, .int a2), (3, .int a3), (4, .int a4), (5, .int a5), (6, .int a6), (7, .int a7)]) hx hb dX10_fact_103 hl (by decide) rfl (fun ls hl => ?_)
                    refine lv_iload hx hb dX10_fact_105 (lv_at hl 0 rfl) ?_
                    refine lv_bipush (v := 24) hx hb dX10_fact_107 (by decide) ?_
                    refine lv_icmp_ne (tgt := 119) hx hb dX10_fact_109 (by decide) (fun c100 => ?_) (fun c100 => ?_)
                    · have h := g_iff c100 h
                      refine lv_aload_n hx hb dX10_fact_119 rfl (lv_at hl 2 rfl) ?_
                      refine g_get hx hb ht hown hE hP (by decide) gE_101 uX10 rfl 0 (by decide) m_790 rfl rfl dX10_fact_120 ?_
                      refine lv_sipush (v := 129) hx hb dX10_fact_123 (by decide) ?_
                      refine lv_iload hx hb dX10_fact_126 (lv_at hl 0 rfl) ?_
                      refine lv_iadd hx hb dX10_fact_128 ?_
                      refine lv_iload_n hx hb dX10_fact_129 rfl (lv_at hl 3 rfl) ?_
                      obtain ⟨i101, h⟩ := g_ix h
                      refine g_iast hx hb hE hP hS (by decide) rfl (by decide) i101 dX10_fact_130 (fun H locs σ102 eσ102 hP hS => ?_)
                      have h := g_nm eσ102 h
                      refine lv_aload_n hx hb dX10_fact_131 rfl (lv_at hl 2 rfl) ?_
                      refine g_get hx hb ht hown hE hP (by decide) gE_101 uX10 rfl 0 (by decide) m_790 rfl rfl dX10_fact_132 ?_
                      refine lv_sipush (v := 153) hx hb dX10_fact_135 (by decide) ?_
                      refine lv_iload hx hb dX10_fact_138 (lv_at hl 0 rfl) ?_
                      refine lv_iadd hx hb dX10_fact_140 ?_
                      refine lv_iload_n hx hb dX10_fact_141 rfl (lv_at hl 4 rfl) ?_
                      obtain ⟨i103, h⟩ := g_ix h
                      refine g_iast hx hb hE hP hS (by decide) rfl (by decide) i103 dX10_fact_142 (fun H locs σ104 eσ104 hP hS => ?_)
                      have h := g_nm eσ104 h
                      refine lv_aload_n hx hb dX10_fact_143 rfl (lv_at hl 2 rfl) ?_
                      refine g_get hx hb ht hown hE hP (by decide) gE_101 uX10 rfl 0 (by decide) m_790 rfl rfl dX10_fact_144 ?_
                      refine lv_sipush (v := 177) hx hb dX10_fact_147 (by decide) ?_
                      refine lv_iload hx hb dX10_fact_150 (lv_at hl 0 rfl) ?_
                      refine lv_iadd hx hb dX10_fact_152 ?_
                      refine lv_iload_n hx hb dX10_fact_153 rfl (lv_at hl 5 rfl) ?_
                      obtain ⟨i105, h⟩ := g_ix h
                      refine g_iast hx hb hE hP hS (by decide) rfl (by decide) i105 dX10_fact_154 (fun H locs σ106 eσ106 hP hS => ?_)
                      have h := g_nm eσ106 h
                      refine lv_aload_n hx hb dX10_fact_155 rfl (lv_at hl 2 rfl) ?_
                      refine g_get hx hb ht hown hE hP (by decide) gE_101 uX10 rfl 0 (by decide) m_790 rfl rfl dX10_fact_156 ?_
                      refine lv_sipush (v := 201) hx hb dX10_fact_159 (by decide) ?_
                      refine lv_iload hx hb dX10_fact_162 (lv_at hl 0 rfl) ?_
                      refine lv_iadd hx hb dX10_fact_164 ?_
                      refine lv_iload_n hx hb dX10_fact_165 rfl (lv_at hl 3 rfl) ?_
                      refine lv_if_ne (tgt := 173) hx hb dX10_fact_166 (by decide) (fun c107 => ?_) (fun c107 => ?_)
                      · have h := g_iff c107 h
                        refine lv_iload hx hb dX10_fact_173 (lv_at hl 6 rfl) ?_
                        obtain ⟨i108, h⟩ := g_ix h
                        refine g_iast hx hb hE hP hS (by decide) rfl (by decide) i108 dX10_fact_175 (fun H locs σ109 eσ109 hP hS => ?_)
                        have h := g_nm eσ109 h
                        refine lv_aload_n hx hb dX10_fact_176 rfl (lv_at hl 2 rfl) ?_
                        refine g_get hx hb ht hown hE hP (by decide) gE_101 uX10 rfl 0 (by decide) m_790 rfl rfl dX10_fact_177 ?_
                        refine lv_sipush (v := 225) hx hb dX10_fact_180 (by decide) ?_
                        refine lv_iload hx hb dX10_fact_183 (lv_at hl 0 rfl) ?_
                        refine lv_iadd hx hb dX10_fact_185 ?_
                        refine lv_iload hx hb dX10_fact_186 (lv_at hl 7 rfl) ?_
                        obtain ⟨i110, h⟩ := g_ix h
                        refine g_iast hx hb hE hP hS (by decide) rfl (by decide) i110 dX10_fact_188 (fun H locs σ111 eσ111 hP hS => ?_)
                        have h := g_nm eσ111 h
                        refine lv_aload_n hx hb dX10_fact_189 rfl (lv_at hl 2 rfl) ?_
                        refine g_get hx hb ht hown hE hP (by decide) gE_101 uX10 rfl 0 (by decide) m_790 rfl rfl dX10_fact_190 ?_
                        refine lv_sipush (v := 249) hx hb dX10_fact_193 (by decide) ?_
                        refine lv_iload hx hb dX10_fact_196 (lv_at hl 0 rfl) ?_
                        refine lv_iadd hx hb dX10_fact_198 ?_
                        refine lv_iload hx hb dX10_fact_199 (lv_at hl 8 rfl) ?_
                        obtain ⟨i112, h⟩ := g_ix h
                        refine g_iast hx hb hE hP hS (by decide) rfl (by decide) i112 dX10_fact_201 (fun H locs σ113 eσ113 hP hS => ?_)
                        have h := g_nm eσ113 h
                        refine lv_aload_n hx hb dX10_fact_202 rfl (lv_at hl 2 rfl) ?_
                        refine g_get hx hb ht hown hE hP (by decide) gE_101 uX10 rfl 0 (by decide) m_790 rfl rfl dX10_fact_203 ?_
                        refine lv_sipush (v := 273) hx hb dX10_fact_206 (by decide) ?_
                        refine lv_iload hx hb dX10_fact_209 (lv_at hl 0 rfl) ?_
                        refine lv_iadd hx hb dX10_fact_211 ?_
                        refine lv_iload hx hb dX10_fact_212 (lv_at hl 9 rfl) ?_
                        obtain ⟨i114, h⟩ := g_ix h
                        refine g_iast hx hb hE hP hS (by decide) rfl (by decide) i114 dX10_fact_214 (fun H locs σ115 eσ115 hP hS => ?_)
                        have h := g_nm eσ115 h
                        refine lv_aload_n hx hb dX10_fact_215 rfl (lv_at hl 2 rfl) ?_
                        refine g_get hx hb ht hown hE hP (by decide) gE_101 uX10 rfl 0 (by decide) m_790 rfl rfl dX10_fact_216 ?_
                        refine lv_sipush (v := 297) hx hb dX10_fact_219 (by decide) ?_
                        refine lv_iload hx hb dX10_fact_222 (lv_at hl 0 rfl) ?_
                        refine lv_iadd hx hb dX10_fact_224 ?_
                        refine lv_iconst (v := 0) hx hb dX10_fact_225 (by decide) ?_
                        obtain ⟨i116, h⟩ := g_ix h
                        refine g_iast hx hb hE hP hS (by decide) rfl (by decide) i116 dX10_fact_226 (fun H locs σ117 eσ117 hP hS => ?_)
                        have h := g_nm eσ117 h
                        refine lv_aload_n hx hb dX10_fact_227 rfl (lv_at hl 2 rfl) ?_
                        refine g_get hx hb ht hown hE hP (by decide) gE_101 uX10 rfl 0 (by decide) m_790 rfl rfl dX10_fact_228 ?_
                        refine lv_iconst (v := 2) hx hb dX10_fact_231 (by decide) ?_
                        refine lv_dup2_11 hx hb dX10_fact_232 rfl rfl ?_
                        obtain ⟨i118, h⟩ := g_ix h
                        refine g_iald hx hb hE hP (by decide) rfl (by decide) i118 dX10_fact_233 ?_
                        refine lv_iconst (v := 1) hx hb dX10_fact_234 (by decide) ?_
                        refine lv_iadd hx hb dX10_fact_235 ?_
                        obtain ⟨i119, h⟩ := g_ix h
                        refine g_iast hx hb hE hP hS (by decide) rfl (by decide) i119 dX10_fact_236 (fun H locs σ120 eσ120 hP hS => ?_)
                        have h := g_nm eσ120 h
                        refine lv_iload hx hb dX10_fact_237 (lv_at hl 0 rfl) ?_
                        exact g_iret hx hb hr hlk hE hP hS h dX10_fact_239
                      · have h := g_ift c107 h
                        refine lv_iconst (v := 0) hx hb dX10_fact_169 (by decide) ?_
                        refine lv_goto (tgt := 175) hx hb dX10_fact_170 (by decide) ?_
                        obtain ⟨i121, h⟩ := g_ix h
                        refine g_iast hx hb hE hP hS (by decide) rfl (by decide) i121 dX10_fact_175 (fun H locs σ122 eσ122 hP hS => ?_)
                        have h := g_nm eσ122 h
                        refine lv_aload_n hx hb dX10_fact_176 rfl (lv_at hl 2 rfl) ?_
                        refine g_get hx hb ht hown hE hP (by decide) gE_101 uX10 rfl 0 (by decide) m_790 rfl rfl dX10_fact_177 ?_
                        refine lv_sipush (v := 225) hx hb dX10_fact_180 (by decide) ?_
                        refine lv_iload hx hb dX10_fact_183 (lv_at hl 0 rfl) ?_
                        refine lv_iadd hx hb dX10_fact_185 ?_
                        refine lv_iload hx hb dX10_fact_186 (lv_at hl 7 rfl) ?_
                        obtain ⟨i123, h⟩ := g_ix h
                        refine g_iast hx hb hE hP hS (by decide) rfl (by decide) i123 dX10_fact_188 (fun H locs σ124 eσ124 hP hS => ?_)
                        have h := g_nm eσ124 h
                        refine lv_aload_n hx hb dX10_fact_189 rfl (lv_at hl 2 rfl) ?_
                        refine g_get hx hb ht hown hE hP (by decide) gE_101 uX10 rfl 0 (by decide) m_790 rfl rfl dX10_fact_190 ?_
                        refine lv_sipush (v := 249) hx hb dX10_fact_193 (by decide) ?_
                        refine lv_iload hx hb dX10_fact_196 (lv_at hl 0 rfl) ?_
                        refine lv_iadd hx hb dX10_fact_198 ?_
                        refine lv_iload hx hb dX10_fact_199 (lv_at hl 8 rfl) ?_
                        obtain ⟨i125, h⟩ := g_ix h
                        refine g_iast hx hb hE hP hS (by decide) rfl (by decide) i125 dX10_fact_201 (fun H locs σ126 eσ126 hP hS => ?_)
                        have h := g_nm eσ126 h
                        refine lv_aload_n hx hb dX10_fact_202 rfl (lv_at hl 2 rfl) ?_
                        refine g_get hx hb ht hown hE hP (by decide) gE_101 uX10 rfl 0 (by decide) m_790 rfl rfl dX10_fact_203 ?_
                        refine lv_sipush (v := 273) hx hb dX10_fact_206 (by decide) ?_
                        refine lv_iload hx hb dX10_fact_209 (lv_at hl 0 rfl) ?_
                        refine lv_iadd hx hb dX10_fact_211 ?_
                        refine lv_iload hx hb dX10_fact_212 (lv_at hl 9 rfl) ?_
                        obtain ⟨i127, h⟩ := g_ix h
                        refine g_iast hx hb hE hP hS (by decide) rfl (by decide) i127 dX10_fact_214 (fun H locs σ128 eσ128 hP hS => ?_)
                        have h := g_nm eσ128 h
                        refine lv_aload_n hx hb dX10_fact_215 rfl (lv_at hl 2 rfl) ?_
                        refine g_get hx hb ht hown hE hP (by decide) gE_101 uX10 rfl 0 (by decide) m_790 rfl rfl dX10_fact_216 ?_
                        refine lv_sipush (v := 297) hx hb dX10_fact_219 (by decide) ?_
                        refine lv_iload hx hb dX10_fact_222 (lv_at hl 0 rfl) ?_
                        refine lv_iadd hx hb dX10_fact_224 ?_
                        refine lv_iconst (v := 0) hx hb dX10_fact_225 (by decide) ?_
                        obtain ⟨i129, h⟩ := g_ix h
                        refine g_iast hx hb hE hP hS (by decide) rfl (by decide) i129 dX10_fact_226 (fun H locs σ130 eσ130 hP hS => ?_)
                        have h := g_nm eσ130 h
                        refine lv_aload_n hx hb dX10_fact_227 rfl (lv_at hl 2 rfl) ?_
                        refine g_get hx hb ht hown hE hP (by decide) gE_101 uX10 rfl 0 (by decide) m_790 rfl rfl dX10_fact_228 ?_
                        refine lv_iconst (v := 2) hx hb dX10_fact_231 (by decide) ?_
                        refine lv_dup2_11 hx hb dX10_fact_232 rfl rfl ?_
                        obtain ⟨i131, h⟩ := g_ix h
                        refine g_iald hx hb hE hP (by decide) rfl (by decide) i131 dX10_fact_233 ?_
                        refine lv_iconst (v := 1) hx hb dX10_fact_234 (by decide) ?_
                        refine lv_iadd hx hb dX10_fact_235 ?_
                        obtain ⟨i132, h⟩ := g_ix h
                        refine g_iast hx hb hE hP hS (by decide) rfl (by decide) i132 dX10_fact_236 (fun H locs σ133 eσ133 hP hS => ?_)
                        have h := g_nm eσ133 h
                        refine lv_iload hx hb dX10_fact_237 (lv_at hl 0 rfl) ?_
                        exact g_iret hx hb hr hlk hE hP hS h dX10_fact_239
                    · have h := g_ift c100 h
                      refine lv_aload_n hx hb dX10_fact_112 rfl (lv_at hl 2 rfl) ?_
                      refine lv_ldc hx hb hown (ht _ m_842) dX10_fact_113 ?_
                      obtain ⟨r135, σ134, hcr135, h⟩ := g_bd h
                      refine g_callV (As := [.int (-100005)]) (n := 1) hx hb hml hown ht (c_X10_finding l G _ _ hcr135) m_838 m_840 m_14 m_41 m_841 (by decide +kernel) (by decide) gE_101 rfl hE hP hS (fun _ h => h) (fun _ _ h => h) rfl hl.1 rfl (Nat.le_of_ble_eq_true rfl) dX10_fact_115 ⟨by decide, by decide⟩ ⟨Nat.zero_le _, Nat.zero_le _⟩ (fun H locs hP hS => ?_)
                      exact g_iret hx hb hr hlk hE hP hS h dX10_fact_118
                  · have h := g_iff c97 h
                    refine lv_aload_n hx hb dX10_fact_90 rfl (lv_at hl 1 rfl) ?_
                    refine lv_ldc hx hb hown (ht _ m_851) dX10_fact_91 ?_
                    obtain ⟨r137, σ136, hcr137, h⟩ := g_bd h
                    refine g_callV (As := [.int (-100003)]) (n := 1) hx hb hml hown ht (c_X10_finding l G _ _ hcr137) m_838 m_840 m_14 m_41 m_841 (by decide +kernel) (by decide) gE_101 rfl hE hP hS (fun _ h => h) (fun _ _ h => h) rfl hl.1 rfl (Nat.le_of_ble_eq_true rfl) dX10_fact_93 ⟨by decide, by decide⟩ ⟨Nat.zero_le _, Nat.zero_le _⟩ (fun H locs hP hS => ?_)
                    exact g_iret hx hb hr hlk hE hP hS h dX10_fact_96
                · have h := g_ift c96 h
                  refine lv_aload_n hx hb dX10_fact_76 rfl (lv_at hl 1 rfl) ?_
                  refine lv_ldc hx hb hown (ht _ m_837) dX10_fact_77 ?_
                  obtain ⟨r139, σ138, hcr139, h⟩ := g_bd h
                  refine g_callV (As := [.int (-100001)]) (n := 1) hx hb hml hown ht (c_X10_finding l G _ _ hcr139) m_838 m_840 m_14 m_41 m_841 (by decide +kernel) (by decide) gE_101 rfl hE hP hS (fun _ h => h) (fun _ _ h => h) rfl hl.1 rfl (Nat.le_of_ble_eq_true rfl) dX10_fact_79 ⟨by decide, by decide⟩ ⟨Nat.zero_le _, Nat.zero_le _⟩ (fun H locs hP hS => ?_)
                  exact g_iret hx hb hr hlk hE hP hS h dX10_fact_82

def L1_X10_doubts : Nat → Int32 → Int32 → gSt → (Int32 → Int32 → gSt → gO) → gO
  | 0, _, _, _, _ => none
  | nL1 + 1, l1_2, l1_1, σL1, kL1 =>
    gIx 549 2 (if (σL1 102 (2 : Int32).toNatClampNeg) ≤ l1_2 then (kL1 l1_2 l1_1 σL1) else (gIx 549 ((297 : Int32) + l1_2) (gNm ((l1_1 + (σL1 102 ((297 : Int32) + l1_2).toNatClampNeg)) : Int32) (fun x5 => gNm (l1_2 + 1 : Int32) (fun x6 => L1_X10_doubts nL1 x6 x5 σL1 kL1)))))
def M_X10_doubts (σ : gSt) : gO :=
  L1_X10_doubts gFu 0 0 σ (fun z7 z8 σ9 => some (z8, σ9))
set_option maxHeartbeats 4000000 in
set_option maxRecDepth 100000 in
theorem c_X10_doubts (l : Launch) (G : gPar) (σ : gSt) {r : Int32} {σ' : gSt} (h : M_X10_doubts σ = some (r, σ')) : gC l G yX10_doubts cX10_doubts 3 (some .int) 0 0 [.ref (G.2.2.1 101)] σ r σ' := by
  refine gC_of (by decide) (Nat.le_of_ble_eq_true rfl) ?_
  intro p e s m below meth c hx hb hr ht hown hlk hml hE hP ls hl
  have hS : va_S (gA G) s.heap s.heap [] := va_S.rf
  have hl : lv_has ls 3 [(0, .ref (G.2.2.1 101))] := hl
  unfold M_X10_doubts at h
  refine lv_iconst (v := 0) hx hb dX10_doubts_0 (by decide) ?_
  refine lv_istore_n (lv' := [(1, .int 0), (0, .ref (G.2.2.1 101))]) hx hb dX10_doubts_1 rfl hl (by decide) rfl (fun ls hl => ?_)
  refine lv_iconst (v := 0) hx hb dX10_doubts_2 (by decide) ?_
  refine lv_istore_n (lv' := [(2, .int 0), (1, .int 0), (0, .ref (G.2.2.1 101))]) hx hb dX10_doubts_3 rfl hl (by decide) rfl (fun ls hl => ?_)
  have LPL1 : ∀ (kL1 : Int32 → Int32 → gSt → gO), (∀ (l1_2 l1_1 : Int32) (σL1 : gSt) (H : Heap) (locs : List Loc) (ls : Array Slot), kL1 l1_2 l1_1 σL1 = some (r, σ') → gW G σL1 H → va_S (gA G) s.heap H locs → lv_has ls 3 [(2, .int l1_2), (1, .int l1_1), (0, .ref (G.2.2.1 101))] → W p l e (gRm 0 0) s m ([.ref (G.2.2.1 101)].toArray) below meth c H locs 0 0 (MQ below (gQ G r σ') ([.ref (G.2.2.1 101)].toArray) s 0 0 (gA G)) (F0 m 33 ls [])) → ∀ (nL1 : Nat) (l1_2 l1_1 : Int32) (σL1 : gSt) (H : Heap) (locs : List Loc) (ls : Array Slot), L1_X10_doubts nL1 l1_2 l1_1 σL1 kL1 = some (r, σ') → gW G σL1 H → va_S (gA G) s.heap H locs → lv_has ls 3 [(2, .int l1_2), (1, .int l1_1), (0, .ref (G.2.2.1 101))] → W p l e (gRm 0 0) s m ([.ref (G.2.2.1 101)].toArray) below meth c H locs 0 0 (MQ below (gQ G r σ') ([.ref (G.2.2.1 101)].toArray) s 0 0 (gA G)) (F0 m 4 ls []) := by
    intro kL1 hKL1 nL1
    induction nL1 with
    | zero =>
      intro l1_2 l1_1 σL1 H locs ls h
      cases h
    | succ nL1 ihL1 =>
      intro l1_2 l1_1 σL1 H locs ls h hP hS hl
      rw [L1_X10_doubts] at h
      refine lv_iload_n hx hb dX10_doubts_4 rfl (lv_at hl 0 rfl) ?_
      refine lv_aload_n hx hb dX10_doubts_5 rfl (lv_at hl 2 rfl) ?_
      refine g_get hx hb ht hown hE hP (by decide) gE_101 uX10 rfl 0 (by decide) m_790 rfl rfl dX10_doubts_6 ?_
      refine lv_iconst (v := 2) hx hb dX10_doubts_9 (by decide) ?_
      obtain ⟨i2, h⟩ := g_ix h
      refine g_iald hx hb hE hP (by decide) rfl (by decide) i2 dX10_doubts_10 ?_
      refine lv_icmp_ge (tgt := 33) hx hb dX10_doubts_11 (by decide) (fun c3 => ?_) (fun c3 => ?_)
      · have h := g_ift c3 h
        exact hKL1 _ _ _ _ _ _ h hP hS (lv_sub hl [0, 1, 2] rfl)
      · have h := g_iff c3 h
        refine lv_iload_n hx hb dX10_doubts_14 rfl (lv_at hl 1 rfl) ?_
        refine lv_aload_n hx hb dX10_doubts_15 rfl (lv_at hl 2 rfl) ?_
        refine g_get hx hb ht hown hE hP (by decide) gE_101 uX10 rfl 0 (by decide) m_790 rfl rfl dX10_doubts_16 ?_
        refine lv_sipush (v := 297) hx hb dX10_doubts_19 (by decide) ?_
        refine lv_iload_n hx hb dX10_doubts_22 rfl (lv_at hl 0 rfl) ?_
        refine lv_iadd hx hb dX10_doubts_23 ?_
        obtain ⟨i4, h⟩ := g_ix h
        refine g_iald hx hb hE hP (by decide) rfl (by decide) i4 dX10_doubts_24 ?_
        refine lv_iadd hx hb dX10_doubts_25 ?_
        refine lv_topi (fun x5 ex5 => ?_)
        have h := g_nm ex5 h
        refine lv_istore_n (lv' := [(1, .int x5), (2, .int l1_2), (0, .ref (G.2.2.1 101))]) hx hb dX10_doubts_26 rfl hl (by decide) rfl (fun ls hl => ?_)
        obtain ⟨x6, ex6⟩ : ∃ y : Int32, y = l1_2 + 1 := ⟨_, rfl⟩
        have h := g_nm ex6 h
        refine lv_iinc (v := x6) (lv' := [(2, .int x6), (1, .int x5), (0, .ref (G.2.2.1 101))]) hx hb dX10_doubts_27 hl (k := 1) rfl (by rw [ex6]; rfl) (by decide) rfl (fun ls hl => ?_)
        refine lv_goto (tgt := 4) hx hb dX10_doubts_30 (by decide) ?_
        exact ihL1 _ _ _ _ _ _ h hP hS (lv_sub hl [0, 1, 2] rfl)
  refine LPL1 _ (fun z7 z8 σ9 H locs ls h hP hS hl => ?_) gFu _ _ _ _ _ _ h hP hS (lv_sub hl [0, 1, 2] rfl)
  refine lv_iload_n hx hb dX10_doubts_33 rfl (lv_at hl 1 rfl) ?_
  exact g_iret hx hb hr hlk hE hP hS h dX10_doubts_34

def M_X10_doubt (a1 a2 : Int32) (σ : gSt) : gO :=
  gIx 549 2 (gBd (M_X10_within a1 0 ((σ 102 (2 : Int32).toNatClampNeg) - 1) σ) (fun r3 σ2 => if r3 = 0 then (gBd (M_X10_finding (-100001) σ2) (fun r31 σ30 => some (r31, σ30))) else (if a2 = 0 then (gIx 549 ((297 : Int32) + a1) (if (σ2 102 ((297 : Int32) + a1).toNatClampNeg) = 0 then (some (0, σ2)) else (if a2 = 0 then (gIx 549 ((297 : Int32) + a1) (gNm (gUp σ2 102 ((297 : Int32) + a1).toNatClampNeg 0) (fun σ10 => some (1, σ10)))) else (gBd (M_X10_doubts σ2) (fun r12 σ11 => if r12 = 8 then (gBd (M_X10_finding (-100005) σ11) (fun r17 σ16 => some (r17, σ16))) else (gIx 549 ((297 : Int32) + a1) (gNm (gUp σ11 102 ((297 : Int32) + a1).toNatClampNeg 0) (fun σ15 => some (1, σ15))))))))) else (gIx 549 ((297 : Int32) + a1) (if (σ2 102 ((297 : Int32) + a1).toNatClampNeg) = 1 then (some (0, σ2)) else (if a2 = 0 then (gIx 549 ((297 : Int32) + a1) (gNm (gUp σ2 102 ((297 : Int32) + a1).toNatClampNeg 1) (fun σ22 => some (1, σ22)))) else (gBd (M_X10_doubts σ2) (fun r24 σ23 => if r24 = 8 then (gBd (M_X10_finding (-100005) σ23) (fun r29 σ28 => some (r29, σ28))) else (gIx 549 ((297 : Int32) + a1) (gNm (gUp σ23 102 ((297 : Int32) + a1).toNatClampNeg 1) (fun σ27 => some (1, σ27))))))))))))
set_option maxHeartbeats 4000000 in
set_option maxRecDepth 100000 in
theorem c_X10_doubt (l : Launch) (G : gPar) (a1 a2 : Int32) (σ : gSt) {r : Int32} {σ' : gSt} (h : M_X10_doubt a1 a2 σ = some (r, σ')) : gC l G yX10_doubt cX10_doubt 4 (some .int) 1 22 [.ref (G.2.2.1 101), .int a1, .int a2] σ r σ' := by
  refine gC_of (by decide) (Nat.le_of_ble_eq_true rfl) ?_
  intro p e s m below meth c hx hb hr ht hown hlk hml hE hP ls hl
  have hS : va_S (gA G) s.heap s.heap [] := va_S.rf
  have hl : lv_has ls 4 [(0, .ref (G.2.2.1 101)), (1, .int a1), (2, .int a2)] := hl
  unfold M_X10_doubt at h
  refine lv_iload_n hx hb dX10_doubt_0 rfl (lv_at hl 1 rfl) ?_
  refine lv_iconst (v := 0) hx hb dX10_doubt_1 (by decide) ?_
  refine lv_aload_n hx hb dX10_doubt_2 rfl (lv_at hl 0 rfl) ?_
  refine g_get hx hb ht hown hE hP (by decide) gE_101 uX10 rfl 0 (by decide) m_790 rfl rfl dX10_doubt_3 ?_
  refine lv_iconst (v := 2) hx hb dX10_doubt_6 (by decide) ?_
  obtain ⟨i1, h⟩ := g_ix h
  refine g_iald hx hb hE hP (by decide) rfl (by decide) i1 dX10_doubt_7 ?_
  refine lv_iconst (v := 1) hx hb dX10_doubt_8 (by decide) ?_
  refine lv_isub hx hb dX10_doubt_9 ?_
  obtain ⟨r3, σ2, hcr3, h⟩ := g_bd h
  refine g_callS (As := [.int a1, .int 0, .int ((σ 102 (2 : Int32).toNatClampNeg) - 1)]) (n := 3) hx hb hml hown ht (c_X10_within l G _ _ _ _ hcr3) m_834 m_835 m_41 m_836 (by decide +kernel) hE hP hS (fun _ h => h) (fun _ _ h => h) rfl hl.1 rfl (Nat.le_of_ble_eq_true rfl) dX10_doubt_10 ⟨by decide, by decide⟩ ⟨Nat.zero_le _, Nat.zero_le _⟩ (fun H locs hP hS => ?_)
  refine lv_if_ne (tgt := 23) hx hb dX10_doubt_13 (by decide) (fun c4 => ?_) (fun c4 => ?_)
  · have h := g_iff c4 h
    refine lv_iload_n hx hb dX10_doubt_23 rfl (lv_at hl 2 rfl) ?_
    refine lv_if_eq (tgt := 31) hx hb dX10_doubt_24 (by decide) (fun c5 => ?_) (fun c5 => ?_)
    · have h := g_ift c5 h
      refine lv_iconst (v := 0) hx hb dX10_doubt_31 (by decide) ?_
      refine lv_istore_n (lv' := [(3, .int 0), (0, .ref (G.2.2.1 101)), (1, .int a1), (2, .int a2)]) hx hb dX10_doubt_32 rfl hl (by decide) rfl (fun ls hl => ?_)
      refine lv_aload_n hx hb dX10_doubt_33 rfl (lv_at hl 1 rfl) ?_
      refine g_get hx hb ht hown hE hP (by decide) gE_101 uX10 rfl 0 (by decide) m_790 rfl rfl dX10_doubt_34 ?_
      refine lv_sipush (v := 297) hx hb dX10_doubt_37 (by decide) ?_
      refine lv_iload_n hx hb dX10_doubt_40 rfl (lv_at hl 2 rfl) ?_
      refine lv_iadd hx hb dX10_doubt_41 ?_
      obtain ⟨i6, h⟩ := g_ix h
      refine g_iald hx hb hE hP (by decide) rfl (by decide) i6 dX10_doubt_42 ?_
      refine lv_iload_n hx hb dX10_doubt_43 rfl (lv_at hl 0 rfl) ?_
      refine lv_icmp_ne (tgt := 49) hx hb dX10_doubt_44 (by decide) (fun c7 => ?_) (fun c7 => ?_)
      · have h := g_iff c7 h
        refine lv_iload_n hx hb dX10_doubt_49 rfl (lv_at hl 3 rfl) ?_
        refine lv_if_eq (tgt := 69) hx hb dX10_doubt_50 (by decide) (fun c8 => ?_) (fun c8 => ?_)
        · have h := g_ift c8 h
          refine lv_aload_n hx hb dX10_doubt_69 rfl (lv_at hl 1 rfl) ?_
          refine g_get hx hb ht hown hE hP (by decide) gE_101 uX10 rfl 0 (by decide) m_790 rfl rfl dX10_doubt_70 ?_
          refine lv_sipush (v := 297) hx hb dX10_doubt_73 (by decide) ?_
          refine lv_iload_n hx hb dX10_doubt_76 rfl (lv_at hl 2 rfl) ?_
          refine lv_iadd hx hb dX10_doubt_77 ?_
          refine lv_iload_n hx hb dX10_doubt_78 rfl (lv_at hl 0 rfl) ?_
          obtain ⟨i9, h⟩ := g_ix h
          refine g_iast hx hb hE hP hS (by decide) rfl (by decide) i9 dX10_doubt_79 (fun H locs σ10 eσ10 hP hS => ?_)
          have h := g_nm eσ10 h
          refine lv_iconst (v := 1) hx hb dX10_doubt_80 (by decide) ?_
          exact g_iret hx hb hr hlk hE hP hS h dX10_doubt_81
        · have h := g_iff c8 h
          refine lv_aload_n hx hb dX10_doubt_53 rfl (lv_at hl 1 rfl) ?_
          obtain ⟨r12, σ11, hcr12, h⟩ := g_bd h
          refine g_callV (As := []) (n := 0) hx hb hml hown ht (c_X10_doubts l G _ hcr12) m_889 m_891 m_18 m_41 m_892 (by decide +kernel) (by decide) gE_101 rfl hE hP hS (fun _ h => h) (fun _ _ h => h) rfl hl.1 rfl (Nat.le_of_ble_eq_true rfl) dX10_doubt_54 ⟨by decide, by decide⟩ ⟨Nat.zero_le _, Nat.zero_le _⟩ (fun H locs hP hS => ?_)
          refine lv_bipush (v := 8) hx hb dX10_doubt_57 (by decide) ?_
          refine lv_icmp_ne (tgt := 69) hx hb dX10_doubt_59 (by decide) (fun c13 => ?_) (fun c13 => ?_)
          · have h := g_iff c13 h
            refine lv_aload_n hx hb dX10_doubt_69 rfl (lv_at hl 1 rfl) ?_
            refine g_get hx hb ht hown hE hP (by decide) gE_101 uX10 rfl 0 (by decide) m_790 rfl rfl dX10_doubt_70 ?_
            refine lv_sipush (v := 297) hx hb dX10_doubt_73 (by decide) ?_
            refine lv_iload_n hx hb dX10_doubt_76 rfl (lv_at hl 2 rfl) ?_
            refine lv_iadd hx hb dX10_doubt_77 ?_
            refine lv_iload_n hx hb dX10_doubt_78 rfl (lv_at hl 0 rfl) ?_
            obtain ⟨i14, h⟩ := g_ix h
            refine g_iast hx hb hE hP hS (by decide) rfl (by decide) i14 dX10_doubt_79 (fun H locs σ15 eσ15 hP hS => ?_)
            have h := g_nm eσ15 h
            refine lv_iconst (v := 1) hx hb dX10_doubt_80 (by decide) ?_
            exact g_iret hx hb hr hlk hE hP hS h dX10_doubt_81
          · have h := g_ift c13 h
            refine lv_aload_n hx hb dX10_doubt_62 rfl (lv_at hl 1 rfl) ?_
            refine lv_ldc hx hb hown (ht _ m_842) dX10_doubt_63 ?_
            obtain ⟨r17, σ16, hcr17, h⟩ := g_bd h
            refine g_callV (As := [.int (-100005)]) (n := 1) hx hb hml hown ht (c_X10_finding l G _ _ hcr17) m_838 m_840 m_14 m_41 m_841 (by decide +kernel) (by decide) gE_101 rfl hE hP hS (fun _ h => h) (fun _ _ h => h) rfl hl.1 rfl (Nat.le_of_ble_eq_true rfl) dX10_doubt_65 ⟨by decide, by decide⟩ ⟨Nat.zero_le _, Nat.zero_le _⟩ (fun H locs hP hS => ?_)
            exact g_iret hx hb hr hlk hE hP hS h dX10_doubt_68
      · have h := g_ift c7 h
        refine lv_iconst (v := 0) hx hb dX10_doubt_47 (by decide) ?_
        exact g_iret hx hb hr hlk hE hP hS h dX10_doubt_48
    · have h := g_iff c5 h
      refine lv_iconst (v := 1) hx hb dX10_doubt_27 (by decide) ?_
      refine lv_goto (tgt := 32) hx hb dX10_doubt_28 (by decide) ?_
      refine lv_istore_n (lv' := [(3, .int 1), (0, .ref (G.2.2.1 101)), (1, .int a1), (2, .int a2)]) hx hb dX10_doubt_32 rfl hl (by decide) rfl (fun ls hl => ?_)
      refine lv_aload_n hx hb dX10_doubt_33 rfl (lv_at hl 1 rfl) ?_
      refine g_get hx hb ht hown hE hP (by decide) gE_101 uX10 rfl 0 (by decide) m_790 rfl rfl dX10_doubt_34 ?_
      refine lv_sipush (v := 297) hx hb dX10_doubt_37 (by decide) ?_
      refine lv_iload_n hx hb dX10_doubt_40 rfl (lv_at hl 2 rfl) ?_
      refine lv_iadd hx hb dX10_doubt_41 ?_
      obtain ⟨i18, h⟩ := g_ix h
      refine g_iald hx hb hE hP (by decide) rfl (by decide) i18 dX10_doubt_42 ?_
      refine lv_iload_n hx hb dX10_doubt_43 rfl (lv_at hl 0 rfl) ?_
      refine lv_icmp_ne (tgt := 49) hx hb dX10_doubt_44 (by decide) (fun c19 => ?_) (fun c19 => ?_)
      · have h := g_iff c19 h
        refine lv_iload_n hx hb dX10_doubt_49 rfl (lv_at hl 3 rfl) ?_
        refine lv_if_eq (tgt := 69) hx hb dX10_doubt_50 (by decide) (fun c20 => ?_) (fun c20 => ?_)
        · have h := g_ift c20 h
          refine lv_aload_n hx hb dX10_doubt_69 rfl (lv_at hl 1 rfl) ?_
          refine g_get hx hb ht hown hE hP (by decide) gE_101 uX10 rfl 0 (by decide) m_790 rfl rfl dX10_doubt_70 ?_
          refine lv_sipush (v := 297) hx hb dX10_doubt_73 (by decide) ?_
          refine lv_iload_n hx hb dX10_doubt_76 rfl (lv_at hl 2 rfl) ?_
          refine lv_iadd hx hb dX10_doubt_77 ?_
          refine lv_iload_n hx hb dX10_doubt_78 rfl (lv_at hl 0 rfl) ?_
          obtain ⟨i21, h⟩ := g_ix h
          refine g_iast hx hb hE hP hS (by decide) rfl (by decide) i21 dX10_doubt_79 (fun H locs σ22 eσ22 hP hS => ?_)
          have h := g_nm eσ22 h
          refine lv_iconst (v := 1) hx hb dX10_doubt_80 (by decide) ?_
          exact g_iret hx hb hr hlk hE hP hS h dX10_doubt_81
        · have h := g_iff c20 h
          refine lv_aload_n hx hb dX10_doubt_53 rfl (lv_at hl 1 rfl) ?_
          obtain ⟨r24, σ23, hcr24, h⟩ := g_bd h
          refine g_callV (As := []) (n := 0) hx hb hml hown ht (c_X10_doubts l G _ hcr24) m_889 m_891 m_18 m_41 m_892 (by decide +kernel) (by decide) gE_101 rfl hE hP hS (fun _ h => h) (fun _ _ h => h) rfl hl.1 rfl (Nat.le_of_ble_eq_true rfl) dX10_doubt_54 ⟨by decide, by decide⟩ ⟨Nat.zero_le _, Nat.zero_le _⟩ (fun H locs hP hS => ?_)
          refine lv_bipush (v := 8) hx hb dX10_doubt_57 (by decide) ?_
          refine lv_icmp_ne (tgt := 69) hx hb dX10_doubt_59 (by decide) (fun c25 => ?_) (fun c25 => ?_)
          · have h := g_iff c25 h
            refine lv_aload_n hx hb dX10_doubt_69 rfl (lv_at hl 1 rfl) ?_
            refine g_get hx hb ht hown hE hP (by decide) gE_101 uX10 rfl 0 (by decide) m_790 rfl rfl dX10_doubt_70 ?_
            refine lv_sipush (v := 297) hx hb dX10_doubt_73 (by decide) ?_
            refine lv_iload_n hx hb dX10_doubt_76 rfl (lv_at hl 2 rfl) ?_
            refine lv_iadd hx hb dX10_doubt_77 ?_
            refine lv_iload_n hx hb dX10_doubt_78 rfl (lv_at hl 0 rfl) ?_
            obtain ⟨i26, h⟩ := g_ix h
            refine g_iast hx hb hE hP hS (by decide) rfl (by decide) i26 dX10_doubt_79 (fun H locs σ27 eσ27 hP hS => ?_)
            have h := g_nm eσ27 h
            refine lv_iconst (v := 1) hx hb dX10_doubt_80 (by decide) ?_
            exact g_iret hx hb hr hlk hE hP hS h dX10_doubt_81
          · have h := g_ift c25 h
            refine lv_aload_n hx hb dX10_doubt_62 rfl (lv_at hl 1 rfl) ?_
            refine lv_ldc hx hb hown (ht _ m_842) dX10_doubt_63 ?_
            obtain ⟨r29, σ28, hcr29, h⟩ := g_bd h
            refine g_callV (As := [.int (-100005)]) (n := 1) hx hb hml hown ht (c_X10_finding l G _ _ hcr29) m_838 m_840 m_14 m_41 m_841 (by decide +kernel) (by decide) gE_101 rfl hE hP hS (fun _ h => h) (fun _ _ h => h) rfl hl.1 rfl (Nat.le_of_ble_eq_true rfl) dX10_doubt_65 ⟨by decide, by decide⟩ ⟨Nat.zero_le _, Nat.zero_le _⟩ (fun H locs hP hS => ?_)
            exact g_iret hx hb hr hlk hE hP hS h dX10_doubt_68
      · have h := g_ift c19 h
        refine lv_iconst (v := 0) hx hb dX10_doubt_47 (by decide) ?_
        exact g_iret hx hb hr hlk hE hP hS h dX10_doubt_48
  · have h := g_ift c4 h
    refine lv_aload_n hx hb dX10_doubt_16 rfl (lv_at hl 0 rfl) ?_
    refine lv_ldc hx hb hown (ht _ m_837) dX10_doubt_17 ?_
    obtain ⟨r31, σ30, hcr31, h⟩ := g_bd h
    refine g_callV (As := [.int (-100001)]) (n := 1) hx hb hml hown ht (c_X10_finding l G _ _ hcr31) m_838 m_840 m_14 m_41 m_841 (by decide +kernel) (by decide) gE_101 rfl hE hP hS (fun _ h => h) (fun _ _ h => h) rfl hl.1 rfl (Nat.le_of_ble_eq_true rfl) dX10_doubt_19 ⟨by decide, by decide⟩ ⟨Nat.zero_le _, Nat.zero_le _⟩ (fun H locs hP hS => ?_)
    exact g_iret hx hb hr hlk hE hP hS h dX10_doubt_22

def M_X10_forget (σ : gSt) : gO :=
  gIx 549 2 (if (σ 102 (2 : Int32).toNatClampNeg) = 0 then (gBd (M_X10_finding (-100006) σ) (fun r8 σ7 => some (r8, σ7))) else (gIx 549 2 (gIx 549 2 (gNm (gUp σ 102 (2 : Int32).toNatClampNeg ((σ 102 (2 : Int32).toNatClampNeg) - 1)) (fun σ5 => gIx 549 2 (some ((σ5 102 (2 : Int32).toNatClampNeg), σ5)))))))
set_option maxHeartbeats 4000000 in
set_option maxRecDepth 100000 in
theorem c_X10_forget (l : Launch) (G : gPar) (σ : gSt) {r : Int32} {σ' : gSt} (h : M_X10_forget σ = some (r, σ')) : gC l G yX10_forget cX10_forget 1 (some .int) 1 21 [.ref (G.2.2.1 101)] σ r σ' := by
  refine gC_of (by decide) (Nat.le_of_ble_eq_true rfl) ?_
  intro p e s m below meth c hx hb hr ht hown hlk hml hE hP ls hl
  have hS : va_S (gA G) s.heap s.heap [] := va_S.rf
  have hl : lv_has ls 1 [(0, .ref (G.2.2.1 101))] := hl
  unfold M_X10_forget at h
  refine lv_aload_n hx hb dX10_forget_0 rfl (lv_at hl 0 rfl) ?_
  refine g_get hx hb ht hown hE hP (by decide) gE_101 uX10 rfl 0 (by decide) m_790 rfl rfl dX10_forget_1 ?_
  refine lv_iconst (v := 2) hx hb dX10_forget_4 (by decide) ?_
  obtain ⟨i1, h⟩ := g_ix h
  refine g_iald hx hb hE hP (by decide) rfl (by decide) i1 dX10_forget_5 ?_
  refine lv_if_ne (tgt := 16) hx hb dX10_forget_6 (by decide) (fun c2 => ?_) (fun c2 => ?_)
  · have h := g_iff c2 h
    refine lv_aload_n hx hb dX10_forget_16 rfl (lv_at hl 0 rfl) ?_
    refine g_get hx hb ht hown hE hP (by decide) gE_101 uX10 rfl 0 (by decide) m_790 rfl rfl dX10_forget_17 ?_
    refine lv_iconst (v := 2) hx hb dX10_forget_20 (by decide) ?_
    refine lv_dup2_11 hx hb dX10_forget_21 rfl rfl ?_
    obtain ⟨i3, h⟩ := g_ix h
    refine g_iald hx hb hE hP (by decide) rfl (by decide) i3 dX10_forget_22 ?_
    refine lv_iconst (v := 1) hx hb dX10_forget_23 (by decide) ?_
    refine lv_isub hx hb dX10_forget_24 ?_
    obtain ⟨i4, h⟩ := g_ix h
    refine g_iast hx hb hE hP hS (by decide) rfl (by decide) i4 dX10_forget_25 (fun H locs σ5 eσ5 hP hS => ?_)
    have h := g_nm eσ5 h
    refine lv_aload_n hx hb dX10_forget_26 rfl (lv_at hl 0 rfl) ?_
    refine g_get hx hb ht hown hE hP (by decide) gE_101 uX10 rfl 0 (by decide) m_790 rfl rfl dX10_forget_27 ?_
    refine lv_iconst (v := 2) hx hb dX10_forget_30 (by decide) ?_
    obtain ⟨i6, h⟩ := g_ix h
    refine g_iald hx hb hE hP (by decide) rfl (by decide) i6 dX10_forget_31 ?_
    exact g_iret hx hb hr hlk hE hP hS h dX10_forget_32
  · have h := g_ift c2 h
    refine lv_aload_n hx hb dX10_forget_9 rfl (lv_at hl 0 rfl) ?_
    refine lv_ldc hx hb hown (ht _ m_897) dX10_forget_10 ?_
    obtain ⟨r8, σ7, hcr8, h⟩ := g_bd h
    refine g_callV (As := [.int (-100006)]) (n := 1) hx hb hml hown ht (c_X10_finding l G _ _ hcr8) m_838 m_840 m_14 m_41 m_841 (by decide +kernel) (by decide) gE_101 rfl hE hP hS (fun _ h => h) (fun _ _ h => h) rfl hl.1 rfl (Nat.le_of_ble_eq_true rfl) dX10_forget_12 ⟨by decide, by decide⟩ ⟨Nat.zero_le _, Nat.zero_le _⟩ (fun H locs hP hS => ?_)
    exact g_iret hx hb hr hlk hE hP hS h dX10_forget_15

def M_X10_law (a1 a2 a3 a4 : Int32) (σ : gSt) : gO :=
  if a1 = 1 then (gBd (M_X10_within a1 0 4 σ) (fun r3 σ2 => if r3 = 0 then (gBd (M_X10_finding (-100001) σ2) (fun r6 σ5 => some (r6, σ5))) else (gBd (M_X10_within a2 0 9999 σ2) (fun r9 σ8 => if r9 = 0 then (gBd (M_X10_finding (-100001) σ8) (fun r12 σ11 => some (r12, σ11))) else (gBd (M_X10_isDay a3 σ8) (fun r14 σ13 => if r14 = 0 then (gBd (M_X10_finding (-100001) σ13) (fun r17 σ16 => some (r17, σ16))) else (gBd (M_X10_isDay a4 σ13) (fun r19 σ18 => if r19 = 0 then (gBd (M_X10_finding (-100001) σ18) (fun r42 σ41 => some (r42, σ41))) else (if a3 ≤ a4 then (gIx 549 3 (gNm ((σ18 102 (3 : Int32).toNatClampNeg) : Int32) (fun x23 => if x23 = 12 then (gBd (M_X10_finding (-100005) σ18) (fun r38 σ37 => some (r38, σ37))) else (gIx 549 ((321 : Int32) + x23) (gNm (gUp σ18 102 ((321 : Int32) + x23).toNatClampNeg a1) (fun σ26 => gIx 549 ((333 : Int32) + x23) (gNm (gUp σ26 102 ((333 : Int32) + x23).toNatClampNeg a2) (fun σ29 => gIx 549 ((345 : Int32) + x23) (gNm (gUp σ29 102 ((345 : Int32) + x23).toNatClampNeg a3) (fun σ31 => gIx 549 ((357 : Int32) + x23) (gNm (gUp σ31 102 ((357 : Int32) + x23).toNatClampNeg a4) (fun σ33 => gIx 549 3 (gIx 549 3 (gNm (gUp σ33 102 (3 : Int32).toNatClampNeg ((σ33 102 (3 : Int32).toNatClampNeg) + 1)) (fun σ36 => some (x23, σ36)))))))))))))))) else (gBd (M_X10_finding (-100003) σ18) (fun r40 σ39 => some (r40, σ39)))))))))))) else (if a1 = 2 then (gBd (M_X10_within a1 0 4 σ) (fun r45 σ44 => if r45 = 0 then (gBd (M_X10_finding (-100001) σ44) (fun r48 σ47 => some (r48, σ47))) else (gBd (M_X10_within a2 0 9999 σ44) (fun r51 σ50 => if r51 = 0 then (gBd (M_X10_finding (-100001) σ50) (fun r54 σ53 => some (r54, σ53))) else (gBd (M_X10_isDay a3 σ50) (fun r56 σ55 => if r56 = 0 then (gBd (M_X10_finding (-100001) σ55) (fun r59 σ58 => some (r59, σ58))) else (gBd (M_X10_isDay a4 σ55) (fun r61 σ60 => if r61 = 0 then (gBd (M_X10_finding (-100001) σ60) (fun r84 σ83 => some (r84, σ83))) else (if a3 ≤ a4 then (gIx 549 3 (gNm ((σ60 102 (3 : Int32).toNatClampNeg) : Int32) (fun x65 => if x65 = 12 then (gBd (M_X10_finding (-100005) σ60) (fun r80 σ79 => some (r80, σ79))) else (gIx 549 ((321 : Int32) + x65) (gNm (gUp σ60 102 ((321 : Int32) + x65).toNatClampNeg a1) (fun σ68 => gIx 549 ((333 : Int32) + x65) (gNm (gUp σ68 102 ((333 : Int32) + x65).toNatClampNeg a2) (fun σ71 => gIx 549 ((345 : Int32) + x65) (gNm (gUp σ71 102 ((345 : Int32) + x65).toNatClampNeg a3) (fun σ73 => gIx 549 ((357 : Int32) + x65) (gNm (gUp σ73 102 ((357 : Int32) + x65).toNatClampNeg a4) (fun σ75 => gIx 549 3 (gIx 549 3 (gNm (gUp σ75 102 (3 : Int32).toNatClampNeg ((σ75 102 (3 : Int32).toNatClampNeg) + 1)) (fun σ78 => some (x65, σ78)))))))))))))))) else (gBd (M_X10_finding (-100003) σ60) (fun r82 σ81 => some (r82, σ81)))))))))))) else (if a1 = 4 then (gBd (M_X10_within a1 0 4 σ) (fun r123 σ122 => if r123 = 0 then (gBd (M_X10_finding (-100001) σ122) (fun r126 σ125 => some (r126, σ125))) else (gBd (M_X10_within a2 0 9999 σ122) (fun r129 σ128 => if r129 = 0 then (gBd (M_X10_finding (-100001) σ128) (fun r132 σ131 => some (r132, σ131))) else (gBd (M_X10_isDay a3 σ128) (fun r134 σ133 => if r134 = 0 then (gBd (M_X10_finding (-100001) σ133) (fun r137 σ136 => some (r137, σ136))) else (gBd (M_X10_isDay a4 σ133) (fun r139 σ138 => if r139 = 0 then (gBd (M_X10_finding (-100001) σ138) (fun r162 σ161 => some (r162, σ161))) else (if a3 ≤ a4 then (gIx 549 3 (gNm ((σ138 102 (3 : Int32).toNatClampNeg) : Int32) (fun x143 => if x143 = 12 then (gBd (M_X10_finding (-100005) σ138) (fun r158 σ157 => some (r158, σ157))) else (gIx 549 ((321 : Int32) + x143) (gNm (gUp σ138 102 ((321 : Int32) + x143).toNatClampNeg a1) (fun σ146 => gIx 549 ((333 : Int32) + x143) (gNm (gUp σ146 102 ((333 : Int32) + x143).toNatClampNeg a2) (fun σ149 => gIx 549 ((345 : Int32) + x143) (gNm (gUp σ149 102 ((345 : Int32) + x143).toNatClampNeg a3) (fun σ151 => gIx 549 ((357 : Int32) + x143) (gNm (gUp σ151 102 ((357 : Int32) + x143).toNatClampNeg a4) (fun σ153 => gIx 549 3 (gIx 549 3 (gNm (gUp σ153 102 (3 : Int32).toNatClampNeg ((σ153 102 (3 : Int32).toNatClampNeg) + 1)) (fun σ156 => some (x143, σ156)))))))))))))))) else (gBd (M_X10_finding (-100003) σ138) (fun r160 σ159 => some (r160, σ159)))))))))))) else (gBd (M_X10_within a1 0 4 σ) (fun r87 σ86 => if r87 = 0 then (gBd (M_X10_finding (-100001) σ86) (fun r90 σ89 => some (r90, σ89))) else (gBd (M_X10_isDay a3 σ86) (fun r93 σ92 => if r93 = 0 then (gBd (M_X10_finding (-100001) σ92) (fun r96 σ95 => some (r96, σ95))) else (gBd (M_X10_isDay a4 σ92) (fun r98 σ97 => if r98 = 0 then (gBd (M_X10_finding (-100001) σ97) (fun r121 σ120 => some (r121, σ120))) else (if a3 ≤ a4 then (gIx 549 3 (gNm ((σ97 102 (3 : Int32).toNatClampNeg) : Int32) (fun x102 => if x102 = 12 then (gBd (M_X10_finding (-100005) σ97) (fun r117 σ116 => some (r117, σ116))) else (gIx 549 ((321 : Int32) + x102) (gNm (gUp σ97 102 ((321 : Int32) + x102).toNatClampNeg a1) (fun σ105 => gIx 549 ((333 : Int32) + x102) (gNm (gUp σ105 102 ((333 : Int32) + x102).toNatClampNeg 0) (fun σ108 => gIx 549 ((345 : Int32) + x102) (gNm (gUp σ108 102 ((345 : Int32) + x102).toNatClampNeg a3) (fun σ110 => gIx 549 ((357 : Int32) + x102) (gNm (gUp σ110 102 ((357 : Int32) + x102).toNatClampNeg a4) (fun σ112 => gIx 549 3 (gIx 549 3 (gNm (gUp σ112 102 (3 : Int32).toNatClampNeg ((σ112 102 (3 : Int32).toNatClampNeg) + 1)) (fun σ115 => some (x102, σ115)))))))))))))))) else (gBd (M_X10_finding (-100003) σ97) (fun r119 σ118 => some (r119, σ118))))))))))))
set_option maxHeartbeats 4000000 in
set_option maxRecDepth 100000 in
theorem c_X10_law (l : Launch) (G : gPar) (a1 a2 a3 a4 : Int32) (σ : gSt) {r : Int32} {σ' : gSt} (h : M_X10_law a1 a2 a3 a4 σ = some (r, σ')) : gC l G yX10_law cX10_law 7 (some .int) 2 42 [.ref (G.2.2.1 101), .int a1, .int a2, .int a3, .int a4] σ r σ' := by
  refine gC_of (by decide) (Nat.le_of_ble_eq_true rfl) ?_
  intro p e s m below meth c hx hb hr ht hown hlk hml hE hP ls hl
  have hS : va_S (gA G) s.heap s.heap [] := va_S.rf
  have hl : lv_has ls 7 [(0, .ref (G.2.2.1 101)), (1, .int a1), (2, .int a2), (3, .int a3), (4, .int a4)] := hl
  unfold M_X10_law at h
  refine lv_iload_n hx hb dX10_law_0 rfl (lv_at hl 1 rfl) ?_
  refine lv_iconst (v := 1) hx hb dX10_law_1 (by decide) ?_
  refine lv_icmp_eq (tgt := 15) hx hb dX10_law_2 (by decide) (fun c1 => ?_) (fun c1 => ?_)
  · have h := g_ift c1 h
    refine lv_iconst (v := 1) hx hb dX10_law_15 (by decide) ?_
    refine lv_goto (tgt := 20) hx hb dX10_law_16 (by decide) ?_
    refine lv_istore (lv' := [(5, .int 1), (0, .ref (G.2.2.1 101)), (1, .int a1), (2, .int a2), (3, .int a3), (4, .int a4)]) hx hb dX10_law_20 hl (by decide) rfl (fun ls hl => ?_)
    refine lv_iload_n hx hb dX10_law_22 rfl (lv_at hl 2 rfl) ?_
    refine lv_iconst (v := 0) hx hb dX10_law_23 (by decide) ?_
    refine lv_iconst (v := 4) hx hb dX10_law_24 (by decide) ?_
    obtain ⟨r3, σ2, hcr3, h⟩ := g_bd h
    refine g_callS (As := [.int a1, .int 0, .int 4]) (n := 3) hx hb hml hown ht (c_X10_within l G _ _ _ _ hcr3) m_834 m_835 m_41 m_836 (by decide +kernel) hE hP hS (fun _ h => h) (fun _ _ h => h) rfl hl.1 rfl (Nat.le_of_ble_eq_true rfl) dX10_law_25 ⟨by decide, by decide⟩ ⟨Nat.zero_le _, Nat.zero_le _⟩ (fun H locs hP hS => ?_)
    refine lv_if_eq (tgt := 62) hx hb dX10_law_28 (by decide) (fun c4 => ?_) (fun c4 => ?_)
    · have h := g_ift c4 h
      refine lv_aload_n hx hb dX10_law_62 rfl (lv_at hl 1 rfl) ?_
      refine lv_ldc hx hb hown (ht _ m_837) dX10_law_63 ?_
      obtain ⟨r6, σ5, hcr6, h⟩ := g_bd h
      refine g_callV (As := [.int (-100001)]) (n := 1) hx hb hml hown ht (c_X10_finding l G _ _ hcr6) m_838 m_840 m_14 m_41 m_841 (by decide +kernel) (by decide) gE_101 rfl hE hP hS (fun _ h => h) (fun _ _ h => h) rfl hl.1 rfl (Nat.le_of_ble_eq_true rfl) dX10_law_65 ⟨by decide, by decide⟩ ⟨Nat.zero_le _, Nat.zero_le _⟩ (fun H locs hP hS => ?_)
      exact g_iret hx hb hr hlk hE hP hS h dX10_law_68
    · have h := g_iff c4 h
      refine lv_iload hx hb dX10_law_31 (lv_at hl 0 rfl) ?_
      refine lv_if_eq (tgt := 47) hx hb dX10_law_33 (by decide) (fun c7 => absurd c7 (by decide)) (fun _ => ?_)
      refine lv_iload_n hx hb dX10_law_36 rfl (lv_at hl 3 rfl) ?_
      refine lv_iconst (v := 0) hx hb dX10_law_37 (by decide) ?_
      refine lv_sipush (v := 9999) hx hb dX10_law_38 (by decide) ?_
      obtain ⟨r9, σ8, hcr9, h⟩ := g_bd h
      refine g_callS (As := [.int a2, .int 0, .int 9999]) (n := 3) hx hb hml hown ht (c_X10_within l G _ _ _ _ hcr9) m_834 m_835 m_41 m_836 (by decide +kernel) hE hP hS (fun _ h => h) (fun _ _ h => h) rfl hl.1 rfl (Nat.le_of_ble_eq_true rfl) dX10_law_41 ⟨by decide, by decide⟩ ⟨Nat.zero_le _, Nat.zero_le _⟩ (fun H locs hP hS => ?_)
      refine lv_if_eq (tgt := 62) hx hb dX10_law_44 (by decide) (fun c10 => ?_) (fun c10 => ?_)
      · have h := g_ift c10 h
        refine lv_aload_n hx hb dX10_law_62 rfl (lv_at hl 1 rfl) ?_
        refine lv_ldc hx hb hown (ht _ m_837) dX10_law_63 ?_
        obtain ⟨r12, σ11, hcr12, h⟩ := g_bd h
        refine g_callV (As := [.int (-100001)]) (n := 1) hx hb hml hown ht (c_X10_finding l G _ _ hcr12) m_838 m_840 m_14 m_41 m_841 (by decide +kernel) (by decide) gE_101 rfl hE hP hS (fun _ h => h) (fun _ _ h => h) rfl hl.1 rfl (Nat.le_of_ble_eq_true rfl) dX10_law_65 ⟨by decide, by decide⟩ ⟨Nat.zero_le _, Nat.zero_le _⟩ (fun H locs hP hS => ?_)
        exact g_iret hx hb hr hlk hE hP hS h dX10_law_68
      · have h := g_iff c10 h
        refine lv_iload_n hx hb dX10_law_47 rfl (lv_at hl 4 rfl) ?_
        obtain ⟨r14, σ13, hcr14, h⟩ := g_bd h
        refine g_callS (As := [.int a3]) (n := 1) hx hb hml hown ht (c_X10_isDay l G _ _ hcr14) m_856 m_857 m_41 m_858 (by decide +kernel) hE hP hS (fun _ h => h) (fun _ _ h => h) rfl hl.1 rfl (Nat.le_of_ble_eq_true rfl) dX10_law_48 ⟨by decide, by decide⟩ ⟨Nat.zero_le _, Nat.zero_le _⟩ (fun H locs hP hS => ?_)
        refine lv_if_eq (tgt := 62) hx hb dX10_law_51 (by decide) (fun c15 => ?_) (fun c15 => ?_)
        · have h := g_ift c15 h
          refine lv_aload_n hx hb dX10_law_62 rfl (lv_at hl 1 rfl) ?_
          refine lv_ldc hx hb hown (ht _ m_837) dX10_law_63 ?_
          obtain ⟨r17, σ16, hcr17, h⟩ := g_bd h
          refine g_callV (As := [.int (-100001)]) (n := 1) hx hb hml hown ht (c_X10_finding l G _ _ hcr17) m_838 m_840 m_14 m_41 m_841 (by decide +kernel) (by decide) gE_101 rfl hE hP hS (fun _ h => h) (fun _ _ h => h) rfl hl.1 rfl (Nat.le_of_ble_eq_true rfl) dX10_law_65 ⟨by decide, by decide⟩ ⟨Nat.zero_le _, Nat.zero_le _⟩ (fun H locs hP hS => ?_)
          exact g_iret hx hb hr hlk hE hP hS h dX10_law_68
        · have h := g_iff c15 h
          refine lv_iload hx hb dX10_law_54 (lv_at hl 5 rfl) ?_
          obtain ⟨r19, σ18, hcr19, h⟩ := g_bd h
          refine g_callS (As := [.int a4]) (n := 1) hx hb hml hown ht (c_X10_isDay l G _ _ hcr19) m_856 m_857 m_41 m_858 (by decide +kernel) hE hP hS (fun _ h => h) (fun _ _ h => h) rfl hl.1 rfl (Nat.le_of_ble_eq_true rfl) dX10_law_56 ⟨by decide, by decide⟩ ⟨Nat.zero_le _, Nat.zero_le _⟩ (fun H locs hP hS => ?_)
          refine lv_if_ne (tgt := 69) hx hb dX10_law_59 (by decide) (fun c20 => ?_) (fun c20 => ?_)
          · have h := g_iff c20 h
            refine lv_iload_n hx hb dX10_law_69 rfl (lv_at hl 4 rfl) ?_
            refine lv_iload hx hb dX10_law_70 (lv_at hl 5 rfl) ?_
            refine lv_icmp_le (tgt := 82) hx hb dX10_law_72 (by decide) (fun c21 => ?_) (fun c21 => ?_)
            · have h := g_ift c21 h
              refine lv_aload_n hx hb dX10_law_82 rfl (lv_at hl 1 rfl) ?_
              refine g_get hx hb ht hown hE hP (by decide) gE_101 uX10 rfl 0 (by decide) m_790 rfl rfl dX10_law_83 ?_
              refine lv_iconst (v := 3) hx hb dX10_law_86 (by decide) ?_
              obtain ⟨i22, h⟩ := g_ix h
              refine g_iald hx hb hE hP (by decide) rfl (by decide) i22 dX10_law_87 ?_
              refine lv_topi (fun x23 ex23 => ?_)
              have h := g_nm ex23 h
              refine lv_istore (lv' := [(6, .int x23), (5, .int 1), (0, .ref (G.2.2.1 101)), (1, .int a1), (2, .int a2), (3, .int a3), (4, .int a4)]) hx hb dX10_law_88 hl (by decide) rfl (fun ls hl => ?_)
              refine lv_iload hx hb dX10_law_90 (lv_at hl 0 rfl) ?_
              refine lv_bipush (v := 12) hx hb dX10_law_92 (by decide) ?_
              refine lv_icmp_ne (tgt := 104) hx hb dX10_law_94 (by decide) (fun c24 => ?_) (fun c24 => ?_)
              · have h := g_iff c24 h
                refine lv_aload_n hx hb dX10_law_104 rfl (lv_at hl 2 rfl) ?_
                refine g_get hx hb ht hown hE hP (by decide) gE_101 uX10 rfl 0 (by decide) m_790 rfl rfl dX10_law_105 ?_
                refine lv_sipush (v := 321) hx hb dX10_law_108 (by decide) ?_
                refine lv_iload hx hb dX10_law_111 (lv_at hl 0 rfl) ?_
                refine lv_iadd hx hb dX10_law_113 ?_
                refine lv_iload_n hx hb dX10_law_114 rfl (lv_at hl 3 rfl) ?_
                obtain ⟨i25, h⟩ := g_ix h
                refine g_iast hx hb hE hP hS (by decide) rfl (by decide) i25 dX10_law_115 (fun H locs σ26 eσ26 hP hS => ?_)
                have h := g_nm eσ26 h
                refine lv_aload_n hx hb dX10_law_116 rfl (lv_at hl 2 rfl) ?_
                refine g_get hx hb ht hown hE hP (by decide) gE_101 uX10 rfl 0 (by decide) m_790 rfl rfl dX10_law_117 ?_
                refine lv_sipush (v := 333) hx hb dX10_law_120 (by decide) ?_
                refine lv_iload hx hb dX10_law_123 (lv_at hl 0 rfl) ?_
                refine lv_iadd hx hb dX10_law_125 ?_
                refine lv_iload hx hb dX10_law_126 (lv_at hl 1 rfl) ?_
                refine lv_if_eq (tgt := 135) hx hb dX10_law_128 (by decide) (fun c27 => absurd c27 (by decide)) (fun _ => ?_)
                refine lv_iload_n hx hb dX10_law_131 rfl (lv_at hl 4 rfl) ?_
                refine lv_goto (tgt := 136) hx hb dX10_law_132 (by decide) ?_
                obtain ⟨i28, h⟩ := g_ix h
                refine g_iast hx hb hE hP hS (by decide) rfl (by decide) i28 dX10_law_136 (fun H locs σ29 eσ29 hP hS => ?_)
                have h := g_nm eσ29 h
                refine lv_aload_n hx hb dX10_law_137 rfl (lv_at hl 2 rfl) ?_
                refine g_get hx hb ht hown hE hP (by decide) gE_101 uX10 rfl 0 (by decide) m_790 rfl rfl dX10_law_138 ?_
                refine lv_sipush (v := 345) hx hb dX10_law_141 (by decide) ?_
                refine lv_iload hx hb dX10_law_144 (lv_at hl 0 rfl) ?_
                refine lv_iadd hx hb dX10_law_146 ?_
                refine lv_iload_n hx hb dX10_law_147 rfl (lv_at hl 5 rfl) ?_
                obtain ⟨i30, h⟩ := g_ix h
                refine g_iast hx hb hE hP hS (by decide) rfl (by decide) i30 dX10_law_148 (fun H locs σ31 eσ31 hP hS => ?_)
                have h := g_nm eσ31 h
                refine lv_aload_n hx hb dX10_law_149 rfl (lv_at hl 2 rfl) ?_
                refine g_get hx hb ht hown hE hP (by decide) gE_101 uX10 rfl 0 (by decide) m_790 rfl rfl dX10_law_150 ?_
                refine lv_sipush (v := 357) hx hb dX10_law_153 (by decide) ?_
                refine lv_iload hx hb dX10_law_156 (lv_at hl 0 rfl) ?_
                refine lv_iadd hx hb dX10_law_158 ?_
                refine lv_iload hx hb dX10_law_159 (lv_at hl 6 rfl) ?_
                obtain ⟨i32, h⟩ := g_ix h
                refine g_iast hx hb hE hP hS (by decide) rfl (by decide) i32 dX10_law_161 (fun H locs σ33 eσ33 hP hS => ?_)
                have h := g_nm eσ33 h
                refine lv_aload_n hx hb dX10_law_162 rfl (lv_at hl 2 rfl) ?_
                refine g_get hx hb ht hown hE hP (by decide) gE_101 uX10 rfl 0 (by decide) m_790 rfl rfl dX10_law_163 ?_
                refine lv_iconst (v := 3) hx hb dX10_law_166 (by decide) ?_
                refine lv_dup2_11 hx hb dX10_law_167 rfl rfl ?_
                obtain ⟨i34, h⟩ := g_ix h
                refine g_iald hx hb hE hP (by decide) rfl (by decide) i34 dX10_law_168 ?_
                refine lv_iconst (v := 1) hx hb dX10_law_169 (by decide) ?_
                refine lv_iadd hx hb dX10_law_170 ?_
                obtain ⟨i35, h⟩ := g_ix h
                refine g_iast hx hb hE hP hS (by decide) rfl (by decide) i35 dX10_law_171 (fun H locs σ36 eσ36 hP hS => ?_)
                have h := g_nm eσ36 h
                refine lv_iload hx hb dX10_law_172 (lv_at hl 0 rfl) ?_
                exact g_iret hx hb hr hlk hE hP hS h dX10_law_174
              · have h := g_ift c24 h
                refine lv_aload_n hx hb dX10_law_97 rfl (lv_at hl 2 rfl) ?_
                refine lv_ldc hx hb hown (ht _ m_842) dX10_law_98 ?_
                obtain ⟨r38, σ37, hcr38, h⟩ := g_bd h
                refine g_callV (As := [.int (-100005)]) (n := 1) hx hb hml hown ht (c_X10_finding l G _ _ hcr38) m_838 m_840 m_14 m_41 m_841 (by decide +kernel) (by decide) gE_101 rfl hE hP hS (fun _ h => h) (fun _ _ h => h) rfl hl.1 rfl (Nat.le_of_ble_eq_true rfl) dX10_law_100 ⟨by decide, by decide⟩ ⟨Nat.zero_le _, Nat.zero_le _⟩ (fun H locs hP hS => ?_)
                exact g_iret hx hb hr hlk hE hP hS h dX10_law_103
            · have h := g_iff c21 h
              refine lv_aload_n hx hb dX10_law_75 rfl (lv_at hl 1 rfl) ?_
              refine lv_ldc hx hb hown (ht _ m_851) dX10_law_76 ?_
              obtain ⟨r40, σ39, hcr40, h⟩ := g_bd h
              refine g_callV (As := [.int (-100003)]) (n := 1) hx hb hml hown ht (c_X10_finding l G _ _ hcr40) m_838 m_840 m_14 m_41 m_841 (by decide +kernel) (by decide) gE_101 rfl hE hP hS (fun _ h => h) (fun _ _ h => h) rfl hl.1 rfl (Nat.le_of_ble_eq_true rfl) dX10_law_78 ⟨by decide, by decide⟩ ⟨Nat.zero_le _, Nat.zero_le _⟩ (fun H locs hP hS => ?_)
              exact g_iret hx hb hr hlk hE hP hS h dX10_law_81
          · have h := g_ift c20 h
            refine lv_aload_n hx hb dX10_law_62 rfl (lv_at hl 1 rfl) ?_
            refine lv_ldc hx hb hown (ht _ m_837) dX10_law_63 ?_
            obtain ⟨r42, σ41, hcr42, h⟩ := g_bd h
            refine g_callV (As := [.int (-100001)]) (n := 1) hx hb hml hown ht (c_X10_finding l G _ _ hcr42) m_838 m_840 m_14 m_41 m_841 (by decide +kernel) (by decide) gE_101 rfl hE hP hS (fun _ h => h) (fun _ _ h => h) rfl hl.1 rfl (Nat.le_of_ble_eq_true rfl) dX10_law_65 ⟨by decide, by decide⟩ ⟨Nat.zero_le _, Nat.zero_le _⟩ (fun H locs hP hS => ?_)
            exact g_iret hx hb hr hlk hE hP hS h dX10_law_68
  · have h := g_iff c1 h
    refine lv_iload_n hx hb dX10_law_5 rfl (lv_at hl 1 rfl) ?_
    refine lv_iconst (v := 2) hx hb dX10_law_6 (by decide) ?_
    refine lv_icmp_eq (tgt := 15) hx hb dX10_law_7 (by decide) (fun c43 => ?_) (fun c43 => ?_)
    · have h := g_ift c43 h
      refine lv_iconst (v := 1) hx hb dX10_law_15 (by decide) ?_
      refine lv_goto (tgt := 20) hx hb dX10_law_16 (by decide) ?_
      refine lv_istore (lv' := [(5, .int 1), (0, .ref (G.2.2.1 101)), (1, .int a1), (2, .int a2), (3, .int a3), (4, .int a4)]) hx hb dX10_law_20 hl (by decide) rfl (fun ls hl => ?_)
      refine lv_iload_n hx hb dX10_law_22 rfl (lv_at hl 2 rfl) ?_
      refine lv_iconst (v := 0) hx hb dX10_law_23 (by decide) ?_
      refine lv_iconst (v := 4) hx hb dX10_law_24 (by decide) ?_
      obtain ⟨r45, σ44, hcr45, h⟩ := g_bd h
      refine g_callS (As := [.int a1, .int 0, .int 4]) (n := 3) hx hb hml hown ht (c_X10_within l G _ _ _ _ hcr45) m_834 m_835 m_41 m_836 (by decide +kernel) hE hP hS (fun _ h => h) (fun _ _ h => h) rfl hl.1 rfl (Nat.le_of_ble_eq_true rfl) dX10_law_25 ⟨by decide, by decide⟩ ⟨Nat.zero_le _, Nat.zero_le _⟩ (fun H locs hP hS => ?_)
      refine lv_if_eq (tgt := 62) hx hb dX10_law_28 (by decide) (fun c46 => ?_) (fun c46 => ?_)
      · have h := g_ift c46 h
        refine lv_aload_n hx hb dX10_law_62 rfl (lv_at hl 1 rfl) ?_
        refine lv_ldc hx hb hown (ht _ m_837) dX10_law_63 ?_
        obtain ⟨r48, σ47, hcr48, h⟩ := g_bd h
        refine g_callV (As := [.int (-100001)]) (n := 1) hx hb hml hown ht (c_X10_finding l G _ _ hcr48) m_838 m_840 m_14 m_41 m_841 (by decide +kernel) (by decide) gE_101 rfl hE hP hS (fun _ h => h) (fun _ _ h => h) rfl hl.1 rfl (Nat.le_of_ble_eq_true rfl) dX10_law_65 ⟨by decide, by decide⟩ ⟨Nat.zero_le _, Nat.zero_le _⟩ (fun H locs hP hS => ?_)
        exact g_iret hx hb hr hlk hE hP hS h dX10_law_68
      · have h := g_iff c46 h
        refine lv_iload hx hb dX10_law_31 (lv_at hl 0 rfl) ?_
        refine lv_if_eq (tgt := 47) hx hb dX10_law_33 (by decide) (fun c49 => absurd c49 (by decide)) (fun _ => ?_)
        refine lv_iload_n hx hb dX10_law_36 rfl (lv_at hl 3 rfl) ?_
        refine lv_iconst (v := 0) hx hb dX10_law_37 (by decide) ?_
        refine lv_sipush (v := 9999) hx hb dX10_law_38 (by decide) ?_
        obtain ⟨r51, σ50, hcr51, h⟩ := g_bd h
        refine g_callS (As := [.int a2, .int 0, .int 9999]) (n := 3) hx hb hml hown ht (c_X10_within l G _ _ _ _ hcr51) m_834 m_835 m_41 m_836 (by decide +kernel) hE hP hS (fun _ h => h) (fun _ _ h => h) rfl hl.1 rfl (Nat.le_of_ble_eq_true rfl) dX10_law_41 ⟨by decide, by decide⟩ ⟨Nat.zero_le _, Nat.zero_le _⟩ (fun H locs hP hS => ?_)
        refine lv_if_eq (tgt := 62) hx hb dX10_law_44 (by decide) (fun c52 => ?_) (fun c52 => ?_)
        · have h := g_ift c52 h
          refine lv_aload_n hx hb dX10_law_62 rfl (lv_at hl 1 rfl) ?_
          refine lv_ldc hx hb hown (ht _ m_837) dX10_law_63 ?_
          obtain ⟨r54, σ53, hcr54, h⟩ := g_bd h
          refine g_callV (As := [.int (-100001)]) (n := 1) hx hb hml hown ht (c_X10_finding l G _ _ hcr54) m_838 m_840 m_14 m_41 m_841 (by decide +kernel) (by decide) gE_101 rfl hE hP hS (fun _ h => h) (fun _ _ h => h) rfl hl.1 rfl (Nat.le_of_ble_eq_true rfl) dX10_law_65 ⟨by decide, by decide⟩ ⟨Nat.zero_le _, Nat.zero_le _⟩ (fun H locs hP hS => ?_)
          exact g_iret hx hb hr hlk hE hP hS h dX10_law_68
        · have h := g_iff c52 h
          refine lv_iload_n hx hb dX10_law_47 rfl (lv_at hl 4 rfl) ?_
          obtain ⟨r56, σ55, hcr56, h⟩ := g_bd h
          refine g_callS (As := [.int a3]) (n := 1) hx hb hml hown ht (c_X10_isDay l G _ _ hcr56) m_856 m_857 m_41 m_858 (by decide +kernel) hE hP hS (fun _ h => h) (fun _ _ h => h) rfl hl.1 rfl (Nat.le_of_ble_eq_true rfl) dX10_law_48 ⟨by decide, by decide⟩ ⟨Nat.zero_le _, Nat.zero_le _⟩ (fun H locs hP hS => ?_)
          refine lv_if_eq (tgt := 62) hx hb dX10_law_51 (by decide) (fun c57 => ?_) (fun c57 => ?_)
          · have h := g_ift c57 h
            refine lv_aload_n hx hb dX10_law_62 rfl (lv_at hl 1 rfl) ?_
            refine lv_ldc hx hb hown (ht _ m_837) dX10_law_63 ?_
            obtain ⟨r59, σ58, hcr59, h⟩ := g_bd h
            refine g_callV (As := [.int (-100001)]) (n := 1) hx hb hml hown ht (c_X10_finding l G _ _ hcr59) m_838 m_840 m_14 m_41 m_841 (by decide +kernel) (by decide) gE_101 rfl hE hP hS (fun _ h => h) (fun _ _ h => h) rfl hl.1 rfl (Nat.le_of_ble_eq_true rfl) dX10_law_65 ⟨by decide, by decide⟩ ⟨Nat.zero_le _, Nat.zero_le _⟩ (fun H locs hP hS => ?_)
            exact g_iret hx hb hr hlk hE hP hS h dX10_law_68
          · have h := g_iff c57 h
            refine lv_iload hx hb dX10_law_54 (lv_at hl 5 rfl) ?_
            obtain ⟨r61, σ60, hcr61, h⟩ := g_bd h
            refine g_callS (As := [.int a4]) (n := 1) hx hb hml hown ht (c_X10_isDay l G _ _ hcr61) m_856 m_857 m_41 m_858 (by decide +kernel) hE hP hS (fun _ h => h) (fun _ _ h => h) rfl hl.1 rfl (Nat.le_of_ble_eq_true rfl) dX10_law_56 ⟨by decide, by decide⟩ ⟨Nat.zero_le _, Nat.zero_le _⟩ (fun H locs hP hS => ?_)
            refine lv_if_ne (tgt := 69) hx hb dX10_law_59 (by decide) (fun c62 => ?_) (fun c62 => ?_)
            · have h := g_iff c62 h
              refine lv_iload_n hx hb dX10_law_69 rfl (lv_at hl 4 rfl) ?_
              refine lv_iload hx hb dX10_law_70 (lv_at hl 5 rfl) ?_
              refine lv_icmp_le (tgt := 82) hx hb dX10_law_72 (by decide) (fun c63 => ?_) (fun c63 => ?_)
              · have h := g_ift c63 h
                refine lv_aload_n hx hb dX10_law_82 rfl (lv_at hl 1 rfl) ?_
                refine g_get hx hb ht hown hE hP (by decide) gE_101 uX10 rfl 0 (by decide) m_790 rfl rfl dX10_law_83 ?_
                refine lv_iconst (v := 3) hx hb dX10_law_86 (by decide) ?_
                obtain ⟨i64, h⟩ := g_ix h
                refine g_iald hx hb hE hP (by decide) rfl (by decide) i64 dX10_law_87 ?_
                refine lv_topi (fun x65 ex65 => ?_)
                have h := g_nm ex65 h
                refine lv_istore (lv' := [(6, .int x65), (5, .int 1), (0, .ref (G.2.2.1 101)), (1, .int a1), (2, .int a2), (3, .int a3), (4, .int a4)]) hx hb dX10_law_88 hl (by decide) rfl (fun ls hl => ?_)
                refine lv_iload hx hb dX10_law_90 (lv_at hl 0 rfl) ?_
                refine lv_bipush (v := 12) hx hb dX10_law_92 (by decide) ?_
                refine lv_icmp_ne (tgt := 104) hx hb dX10_law_94 (by decide) (fun c66 => ?_) (fun c66 => ?_)
                · have h := g_iff c66 h
                  refine lv_aload_n hx hb dX10_law_104 rfl (lv_at hl 2 rfl) ?_
                  refine g_get hx hb ht hown hE hP (by decide) gE_101 uX10 rfl 0 (by decide) m_790 rfl rfl dX10_law_105 ?_
                  refine lv_sipush (v := 321) hx hb dX10_law_108 (by decide) ?_
                  refine lv_iload hx hb dX10_law_111 (lv_at hl 0 rfl) ?_
                  refine lv_iadd hx hb dX10_law_113 ?_
                  refine lv_iload_n hx hb dX10_law_114 rfl (lv_at hl 3 rfl) ?_
                  obtain ⟨i67, h⟩ := g_ix h
                  refine g_iast hx hb hE hP hS (by decide) rfl (by decide) i67 dX10_law_115 (fun H locs σ68 eσ68 hP hS => ?_)
                  have h := g_nm eσ68 h
                  refine lv_aload_n hx hb dX10_law_116 rfl (lv_at hl 2 rfl) ?_
                  refine g_get hx hb ht hown hE hP (by decide) gE_101 uX10 rfl 0 (by decide) m_790 rfl rfl dX10_law_117 ?_
                  refine lv_sipush (v := 333) hx hb dX10_law_120 (by decide) ?_
                  refine lv_iload hx hb dX10_law_123 (lv_at hl 0 rfl) ?_
                  refine lv_iadd hx hb dX10_law_125 ?_
                  refine lv_iload hx hb dX10_law_126 (lv_at hl 1 rfl) ?_
                  refine lv_if_eq (tgt := 135) hx hb dX10_law_128 (by decide) (fun c69 => absurd c69 (by decide)) (fun _ => ?_)
                  refine lv_iload_n hx hb dX10_law_131 rfl (lv_at hl 4 rfl) ?_
                  refine lv_goto (tgt := 136) hx hb dX10_law_132 (by decide) ?_
                  obtain ⟨i70, h⟩ := g_ix h
                  refine g_iast hx hb hE hP hS (by decide) rfl (by decide) i70 dX10_law_136 (fun H locs σ71 eσ71 hP hS => ?_)
                  have h := g_nm eσ71 h
                  refine lv_aload_n hx hb dX10_law_137 rfl (lv_at hl 2 rfl) ?_
                  refine g_get hx hb ht hown hE hP (by decide) gE_101 uX10 rfl 0 (by decide) m_790 rfl rfl dX10_law_138 ?_
                  refine lv_sipush (v := 345) hx hb dX10_law_141 (by decide) ?_
                  refine lv_iload hx hb dX10_law_144 (lv_at hl 0 rfl) ?_
                  refine lv_iadd hx hb dX10_law_146 ?_
                  refine lv_iload_n hx hb dX10_law_147 rfl (lv_at hl 5 rfl) ?_
                  obtain ⟨i72, h⟩ := g_ix h
                  refine g_iast hx hb hE hP hS (by decide) rfl (by decide) i72 dX10_law_148 (fun H locs σ73 eσ73 hP hS => ?_)
                  have h := g_nm eσ73 h
                  refine lv_aload_n hx hb dX10_law_149 rfl (lv_at hl 2 rfl) ?_
                  refine g_get hx hb ht hown hE hP (by decide) gE_101 uX10 rfl 0 (by decide) m_790 rfl rfl dX10_law_150 ?_
                  refine lv_sipush (v := 357) hx hb dX10_law_153 (by decide) ?_
                  refine lv_iload hx hb dX10_law_156 (lv_at hl 0 rfl) ?_
                  refine lv_iadd hx hb dX10_law_158 ?_
                  refine lv_iload hx hb dX10_law_159 (lv_at hl 6 rfl) ?_
                  obtain ⟨i74, h⟩ := g_ix h
                  refine g_iast hx hb hE hP hS (by decide) rfl (by decide) i74 dX10_law_161 (fun H locs σ75 eσ75 hP hS => ?_)
                  have h := g_nm eσ75 h
                  refine lv_aload_n hx hb dX10_law_162 rfl (lv_at hl 2 rfl) ?_
                  refine g_get hx hb ht hown hE hP (by decide) gE_101 uX10 rfl 0 (by decide) m_790 rfl rfl dX10_law_163 ?_
                  refine lv_iconst (v := 3) hx hb dX10_law_166 (by decide) ?_
                  refine lv_dup2_11 hx hb dX10_law_167 rfl rfl ?_
                  obtain ⟨i76, h⟩ := g_ix h
                  refine g_iald hx hb hE hP (by decide) rfl (by decide) i76 dX10_law_168 ?_
                  refine lv_iconst (v := 1) hx hb dX10_law_169 (by decide) ?_
                  refine lv_iadd hx hb dX10_law_170 ?_
                  obtain ⟨i77, h⟩ := g_ix h
                  refine g_iast hx hb hE hP hS (by decide) rfl (by decide) i77 dX10_law_171 (fun H locs σ78 eσ78 hP hS => ?_)
                  have h := g_nm eσ78 h
                  refine lv_iload hx hb dX10_law_172 (lv_at hl 0 rfl) ?_
                  exact g_iret hx hb hr hlk hE hP hS h dX10_law_174
                · have h := g_ift c66 h
                  refine lv_aload_n hx hb dX10_law_97 rfl (lv_at hl 2 rfl) ?_
                  refine lv_ldc hx hb hown (ht _ m_842) dX10_law_98 ?_
                  obtain ⟨r80, σ79, hcr80, h⟩ := g_bd h
                  refine g_callV (As := [.int (-100005)]) (n := 1) hx hb hml hown ht (c_X10_finding l G _ _ hcr80) m_838 m_840 m_14 m_41 m_841 (by decide +kernel) (by decide) gE_101 rfl hE hP hS (fun _ h => h) (fun _ _ h => h) rfl hl.1 rfl (Nat.le_of_ble_eq_true rfl) dX10_law_100 ⟨by decide, by decide⟩ ⟨Nat.zero_le _, Nat.zero_le _⟩ (fun H locs hP hS => ?_)
                  exact g_iret hx hb hr hlk hE hP hS h dX10_law_103
              · have h := g_iff c63 h
                refine lv_aload_n hx hb dX10_law_75 rfl (lv_at hl 1 rfl) ?_
                refine lv_ldc hx hb hown (ht _ m_851) dX10_law_76 ?_
                obtain ⟨r82, σ81, hcr82, h⟩ := g_bd h
                refine g_callV (As := [.int (-100003)]) (n := 1) hx hb hml hown ht (c_X10_finding l G _ _ hcr82) m_838 m_840 m_14 m_41 m_841 (by decide +kernel) (by decide) gE_101 rfl hE hP hS (fun _ h => h) (fun _ _ h => h) rfl hl.1 rfl (Nat.le_of_ble_eq_true rfl) dX10_law_78 ⟨by decide, by decide⟩ ⟨Nat.zero_le _, Nat.zero_le _⟩ (fun H locs hP hS => ?_)
                exact g_iret hx hb hr hlk hE hP hS h dX10_law_81
            · have h := g_ift c62 h
              refine lv_aload_n hx hb dX10_law_62 rfl (lv_at hl 1 rfl) ?_
              refine lv_ldc hx hb hown (ht _ m_837) dX10_law_63 ?_
              obtain ⟨r84, σ83, hcr84, h⟩ := g_bd h
              refine g_callV (As := [.int (-100001)]) (n := 1) hx hb hml hown ht (c_X10_finding l G _ _ hcr84) m_838 m_840 m_14 m_41 m_841 (by decide +kernel) (by decide) gE_101 rfl hE hP hS (fun _ h => h) (fun _ _ h => h) rfl hl.1 rfl (Nat.le_of_ble_eq_true rfl) dX10_law_65 ⟨by decide, by decide⟩ ⟨Nat.zero_le _, Nat.zero_le _⟩ (fun H locs hP hS => ?_)
              exact g_iret hx hb hr hlk hE hP hS h dX10_law_68
    · have h := g_iff c43 h
      refine lv_iload_n hx hb dX10_law_10 rfl (lv_at hl 1 rfl) ?_
      refine lv_iconst (v := 4) hx hb dX10_law_11 (by decide) ?_
      refine lv_icmp_ne (tgt := 19) hx hb dX10_law_12 (by decide) (fun c85 => ?_) (fun c85 => ?_)
      · have h := g_iff c85 h
        refine lv_iconst (v := 0) hx hb dX10_law_19 (by decide) ?_
        refine lv_istore (lv' := [(5, .int 0), (0, .ref (G.2.2.1 101)), (1, .int a1), (2, .int a2), (3, .int a3), (4, .int a4)]) hx hb dX10_law_20 hl (by decide) rfl (fun ls hl => ?_)
        refine lv_iload_n hx hb dX10_law_22 rfl (lv_at hl 2 rfl) ?_
        refine lv_iconst (v := 0) hx hb dX10_law_23 (by decide) ?_
        refine lv_iconst (v := 4) hx hb dX10_law_24 (by decide) ?_
        obtain ⟨r87, σ86, hcr87, h⟩ := g_bd h
        refine g_callS (As := [.int a1, .int 0, .int 4]) (n := 3) hx hb hml hown ht (c_X10_within l G _ _ _ _ hcr87) m_834 m_835 m_41 m_836 (by decide +kernel) hE hP hS (fun _ h => h) (fun _ _ h => h) rfl hl.1 rfl (Nat.le_of_ble_eq_true rfl) dX10_law_25 ⟨by decide, by decide⟩ ⟨Nat.zero_le _, Nat.zero_le _⟩ (fun H locs hP hS => ?_)
        refine lv_if_eq (tgt := 62) hx hb dX10_law_28 (by decide) (fun c88 => ?_) (fun c88 => ?_)
        · have h := g_ift c88 h
          refine lv_aload_n hx hb dX10_law_62 rfl (lv_at hl 1 rfl) ?_
          refine lv_ldc hx hb hown (ht _ m_837) dX10_law_63 ?_
          obtain ⟨r90, σ89, hcr90, h⟩ := g_bd h
          refine g_callV (As := [.int (-100001)]) (n := 1) hx hb hml hown ht (c_X10_finding l G _ _ hcr90) m_838 m_840 m_14 m_41 m_841 (by decide +kernel) (by decide) gE_101 rfl hE hP hS (fun _ h => h) (fun _ _ h => h) rfl hl.1 rfl (Nat.le_of_ble_eq_true rfl) dX10_law_65 ⟨by decide, by decide⟩ ⟨Nat.zero_le _, Nat.zero_le _⟩ (fun H locs hP hS => ?_)
          exact g_iret hx hb hr hlk hE hP hS h dX10_law_68
        · have h := g_iff c88 h
          refine lv_iload hx hb dX10_law_31 (lv_at hl 0 rfl) ?_
          refine lv_if_eq (tgt := 47) hx hb dX10_law_33 (by decide) (fun _ => ?_) (fun c91 => absurd (by decide) c91)
          refine lv_iload_n hx hb dX10_law_47 rfl (lv_at hl 4 rfl) ?_
          obtain ⟨r93, σ92, hcr93, h⟩ := g_bd h
          refine g_callS (As := [.int a3]) (n := 1) hx hb hml hown ht (c_X10_isDay l G _ _ hcr93) m_856 m_857 m_41 m_858 (by decide +kernel) hE hP hS (fun _ h => h) (fun _ _ h => h) rfl hl.1 rfl (Nat.le_of_ble_eq_true rfl) dX10_law_48 ⟨by decide, by decide⟩ ⟨Nat.zero_le _, Nat.zero_le _⟩ (fun H locs hP hS => ?_)
          refine lv_if_eq (tgt := 62) hx hb dX10_law_51 (by decide) (fun c94 => ?_) (fun c94 => ?_)
          · have h := g_ift c94 h
            refine lv_aload_n hx hb dX10_law_62 rfl (lv_at hl 1 rfl) ?_
            refine lv_ldc hx hb hown (ht _ m_837) dX10_law_63 ?_
            obtain ⟨r96, σ95, hcr96, h⟩ := g_bd h
            refine g_callV (As := [.int (-100001)]) (n := 1) hx hb hml hown ht (c_X10_finding l G _ _ hcr96) m_838 m_840 m_14 m_41 m_841 (by decide +kernel) (by decide) gE_101 rfl hE hP hS (fun _ h => h) (fun _ _ h => h) rfl hl.1 rfl (Nat.le_of_ble_eq_true rfl) dX10_law_65 ⟨by decide, by decide⟩ ⟨Nat.zero_le _, Nat.zero_le _⟩ (fun H locs hP hS => ?_)
            exact g_iret hx hb hr hlk hE hP hS h dX10_law_68
          · have h := g_iff c94 h
            refine lv_iload hx hb dX10_law_54 (lv_at hl 5 rfl) ?_
            obtain ⟨r98, σ97, hcr98, h⟩ := g_bd h
            refine g_callS (As := [.int a4]) (n := 1) hx hb hml hown ht (c_X10_isDay l G _ _ hcr98) m_856 m_857 m_41 m_858 (by decide +kernel) hE hP hS (fun _ h => h) (fun _ _ h => h) rfl hl.1 rfl (Nat.le_of_ble_eq_true rfl) dX10_law_56 ⟨by decide, by decide⟩ ⟨Nat.zero_le _, Nat.zero_le _⟩ (fun H locs hP hS => ?_)
            refine lv_if_ne (tgt := 69) hx hb dX10_law_59 (by decide) (fun c99 => ?_) (fun c99 => ?_)
            · have h := g_iff c99 h
              refine lv_iload_n hx hb dX10_law_69 rfl (lv_at hl 4 rfl) ?_
              refine lv_iload hx hb dX10_law_70 (lv_at hl 5 rfl) ?_
              refine lv_icmp_le (tgt := 82) hx hb dX10_law_72 (by decide) (fun c100 => ?_) (fun c100 => ?_)
              · have h := g_ift c100 h
                refine lv_aload_n hx hb dX10_law_82 rfl (lv_at hl 1 rfl) ?_
                refine g_get hx hb ht hown hE hP (by decide) gE_101 uX10 rfl 0 (by decide) m_790 rfl rfl dX10_law_83 ?_
                refine lv_iconst (v := 3) hx hb dX10_law_86 (by decide) ?_
                obtain ⟨i101, h⟩ := g_ix h
                refine g_iald hx hb hE hP (by decide) rfl (by decide) i101 dX10_law_87 ?_
                refine lv_topi (fun x102 ex102 => ?_)
                have h := g_nm ex102 h
                refine lv_istore (lv' := [(6, .int x102), (5, .int 0), (0, .ref (G.2.2.1 101)), (1, .int a1), (2, .int a2), (3, .int a3), (4, .int a4)]) hx hb dX10_law_88 hl (by decide) rfl (fun ls hl => ?_)
                refine lv_iload hx hb dX10_law_90 (lv_at hl 0 rfl) ?_
                refine lv_bipush (v := 12) hx hb dX10_law_92 (by decide) ?_
                refine lv_icmp_ne (tgt := 104) hx hb dX10_law_94 (by decide) (fun c103 => ?_) (fun c103 => ?_)
                · have h := g_iff c103 h
                  refine lv_aload_n hx hb dX10_law_104 rfl (lv_at hl 2 rfl) ?_
                  refine g_get hx hb ht hown hE hP (by decide) gE_101 uX10 rfl 0 (by decide) m_790 rfl rfl dX10_law_105 ?_
                  refine lv_sipush (v := 321) hx hb dX10_law_108 (by decide) ?_
                  refine lv_iload hx hb dX10_law_111 (lv_at hl 0 rfl) ?_
                  refine lv_iadd hx hb dX10_law_113 ?_
                  refine lv_iload_n hx hb dX10_law_114 rfl (lv_at hl 3 rfl) ?_
                  obtain ⟨i104, h⟩ := g_ix h
                  refine g_iast hx hb hE hP hS (by decide) rfl (by decide) i104 dX10_law_115 (fun H locs σ105 eσ105 hP hS => ?_)
                  have h := g_nm eσ105 h
                  refine lv_aload_n hx hb dX10_law_116 rfl (lv_at hl 2 rfl) ?_
                  refine g_get hx hb ht hown hE hP (by decide) gE_101 uX10 rfl 0 (by decide) m_790 rfl rfl dX10_law_117 ?_
                  refine lv_sipush (v := 333) hx hb dX10_law_120 (by decide) ?_
                  refine lv_iload hx hb dX10_law_123 (lv_at hl 0 rfl) ?_
                  refine lv_iadd hx hb dX10_law_125 ?_
                  refine lv_iload hx hb dX10_law_126 (lv_at hl 1 rfl) ?_
                  refine lv_if_eq (tgt := 135) hx hb dX10_law_128 (by decide) (fun _ => ?_) (fun c106 => absurd (by decide) c106)
                  refine lv_iconst (v := 0) hx hb dX10_law_135 (by decide) ?_
                  obtain ⟨i107, h⟩ := g_ix h
                  refine g_iast hx hb hE hP hS (by decide) rfl (by decide) i107 dX10_law_136 (fun H locs σ108 eσ108 hP hS => ?_)
                  have h := g_nm eσ108 h
                  refine lv_aload_n hx hb dX10_law_137 rfl (lv_at hl 2 rfl) ?_
                  refine g_get hx hb ht hown hE hP (by decide) gE_101 uX10 rfl 0 (by decide) m_790 rfl rfl dX10_law_138 ?_
                  refine lv_sipush (v := 345) hx hb dX10_law_141 (by decide) ?_
                  refine lv_iload hx hb dX10_law_144 (lv_at hl 0 rfl) ?_
                  refine lv_iadd hx hb dX10_law_146 ?_
                  refine lv_iload_n hx hb dX10_law_147 rfl (lv_at hl 5 rfl) ?_
                  obtain ⟨i109, h⟩ := g_ix h
                  refine g_iast hx hb hE hP hS (by decide) rfl (by decide) i109 dX10_law_148 (fun H locs σ110 eσ110 hP hS => ?_)
                  have h := g_nm eσ110 h
                  refine lv_aload_n hx hb dX10_law_149 rfl (lv_at hl 2 rfl) ?_
                  refine g_get hx hb ht hown hE hP (by decide) gE_101 uX10 rfl 0 (by decide) m_790 rfl rfl dX10_law_150 ?_
                  refine lv_sipush (v := 357) hx hb dX10_law_153 (by decide) ?_
                  refine lv_iload hx hb dX10_law_156 (lv_at hl 0 rfl) ?_
                  refine lv_iadd hx hb dX10_law_158 ?_
                  refine lv_iload hx hb dX10_law_159 (lv_at hl 6 rfl) ?_
                  obtain ⟨i111, h⟩ := g_ix h
                  refine g_iast hx hb hE hP hS (by decide) rfl (by decide) i111 dX10_law_161 (fun H locs σ112 eσ112 hP hS => ?_)
                  have h := g_nm eσ112 h
                  refine lv_aload_n hx hb dX10_law_162 rfl (lv_at hl 2 rfl) ?_
                  refine g_get hx hb ht hown hE hP (by decide) gE_101 uX10 rfl 0 (by decide) m_790 rfl rfl dX10_law_163 ?_
                  refine lv_iconst (v := 3) hx hb dX10_law_166 (by decide) ?_
                  refine lv_dup2_11 hx hb dX10_law_167 rfl rfl ?_
                  obtain ⟨i113, h⟩ := g_ix h
                  refine g_iald hx hb hE hP (by decide) rfl (by decide) i113 dX10_law_168 ?_
                  refine lv_iconst (v := 1) hx hb dX10_law_169 (by decide) ?_
                  refine lv_iadd hx hb dX10_law_170 ?_
                  obtain ⟨i114, h⟩ := g_ix h
                  refine g_iast hx hb hE hP hS (by decide) rfl (by decide) i114 dX10_law_171 (fun H locs σ115 eσ115 hP hS => ?_)
                  have h := g_nm eσ115 h
                  refine lv_iload hx hb dX10_law_172 (lv_at hl 0 rfl) ?_
                  exact g_iret hx hb hr hlk hE hP hS h dX10_law_174
                · have h := g_ift c103 h
                  refine lv_aload_n hx hb dX10_law_97 rfl (lv_at hl 2 rfl) ?_
                  refine lv_ldc hx hb hown (ht _ m_842) dX10_law_98 ?_
                  obtain ⟨r117, σ116, hcr117, h⟩ := g_bd h
                  refine g_callV (As := [.int (-100005)]) (n := 1) hx hb hml hown ht (c_X10_finding l G _ _ hcr117) m_838 m_840 m_14 m_41 m_841 (by decide +kernel) (by decide) gE_101 rfl hE hP hS (fun _ h => h) (fun _ _ h => h) rfl hl.1 rfl (Nat.le_of_ble_eq_true rfl) dX10_law_100 ⟨by decide, by decide⟩ ⟨Nat.zero_le _, Nat.zero_le _⟩ (fun H locs hP hS => ?_)
                  exact g_iret hx hb hr hlk hE hP hS h dX10_law_103
              · have h := g_iff c100 h
                refine lv_aload_n hx hb dX10_law_75 rfl (lv_at hl 1 rfl) ?_
                refine lv_ldc hx hb hown (ht _ m_851) dX10_law_76 ?_
                obtain ⟨r119, σ118, hcr119, h⟩ := g_bd h
                refine g_callV (As := [.int (-100003)]) (n := 1) hx hb hml hown ht (c_X10_finding l G _ _ hcr119) m_838 m_840 m_14 m_41 m_841 (by decide +kernel) (by decide) gE_101 rfl hE hP hS (fun _ h => h) (fun _ _ h => h) rfl hl.1 rfl (Nat.le_of_ble_eq_true rfl) dX10_law_78 ⟨by decide, by decide⟩ ⟨Nat.zero_le _, Nat.zero_le _⟩ (fun H locs hP hS => ?_)
                exact g_iret hx hb hr hlk hE hP hS h dX10_law_81
            · have h := g_ift c99 h
              refine lv_aload_n hx hb dX10_law_62 rfl (lv_at hl 1 rfl) ?_
              refine lv_ldc hx hb hown (ht _ m_837) dX10_law_63 ?_
              obtain ⟨r121, σ120, hcr121, h⟩ := g_bd h
              refine g_callV (As := [.int (-100001)]) (n := 1) hx hb hml hown ht (c_X10_finding l G _ _ hcr121) m_838 m_840 m_14 m_41 m_841 (by decide +kernel) (by decide) gE_101 rfl hE hP hS (fun _ h => h) (fun _ _ h => h) rfl hl.1 rfl (Nat.le_of_ble_eq_true rfl) dX10_law_65 ⟨by decide, by decide⟩ ⟨Nat.zero_le _, Nat.zero_le _⟩ (fun H locs hP hS => ?_)
              exact g_iret hx hb hr hlk hE hP hS h dX10_law_68
      · have h := g_ift c85 h
        refine lv_iconst (v := 1) hx hb dX10_law_15 (by decide) ?_
        refine lv_goto (tgt := 20) hx hb dX10_law_16 (by decide) ?_
        refine lv_istore (lv' := [(5, .int 1), (0, .ref (G.2.2.1 101)), (1, .int a1), (2, .int a2), (3, .int a3), (4, .int a4)]) hx hb dX10_law_20 hl (by decide) rfl (fun ls hl => ?_)
        refine lv_iload_n hx hb dX10_law_22 rfl (lv_at hl 2 rfl) ?_
        refine lv_iconst (v := 0) hx hb dX10_law_23 (by decide) ?_
        refine lv_iconst (v := 4) hx hb dX10_law_24 (by decide) ?_
        obtain ⟨r123, σ122, hcr123, h⟩ := g_bd h
        refine g_callS (As := [.int a1, .int 0, .int 4]) (n := 3) hx hb hml hown ht (c_X10_within l G _ _ _ _ hcr123) m_834 m_835 m_41 m_836 (by decide +kernel) hE hP hS (fun _ h => h) (fun _ _ h => h) rfl hl.1 rfl (Nat.le_of_ble_eq_true rfl) dX10_law_25 ⟨by decide, by decide⟩ ⟨Nat.zero_le _, Nat.zero_le _⟩ (fun H locs hP hS => ?_)
        refine lv_if_eq (tgt := 62) hx hb dX10_law_28 (by decide) (fun c124 => ?_) (fun c124 => ?_)
        · have h := g_ift c124 h
          refine lv_aload_n hx hb dX10_law_62 rfl (lv_at hl 1 rfl) ?_
          refine lv_ldc hx hb hown (ht _ m_837) dX10_law_63 ?_
          obtain ⟨r126, σ125, hcr126, h⟩ := g_bd h
          refine g_callV (As := [.int (-100001)]) (n := 1) hx hb hml hown ht (c_X10_finding l G _ _ hcr126) m_838 m_840 m_14 m_41 m_841 (by decide +kernel) (by decide) gE_101 rfl hE hP hS (fun _ h => h) (fun _ _ h => h) rfl hl.1 rfl (Nat.le_of_ble_eq_true rfl) dX10_law_65 ⟨by decide, by decide⟩ ⟨Nat.zero_le _, Nat.zero_le _⟩ (fun H locs hP hS => ?_)
          exact g_iret hx hb hr hlk hE hP hS h dX10_law_68
        · have h := g_iff c124 h
          refine lv_iload hx hb dX10_law_31 (lv_at hl 0 rfl) ?_
          refine lv_if_eq (tgt := 47) hx hb dX10_law_33 (by decide) (fun c127 => absurd c127 (by decide)) (fun _ => ?_)
          refine lv_iload_n hx hb dX10_law_36 rfl (lv_at hl 3 rfl) ?_
          refine lv_iconst (v := 0) hx hb dX10_law_37 (by decide) ?_
          refine lv_sipush (v := 9999) hx hb dX10_law_38 (by decide) ?_
          obtain ⟨r129, σ128, hcr129, h⟩ := g_bd h
          refine g_callS (As := [.int a2, .int 0, .int 9999]) (n := 3) hx hb hml hown ht (c_X10_within l G _ _ _ _ hcr129) m_834 m_835 m_41 m_836 (by decide +kernel) hE hP hS (fun _ h => h) (fun _ _ h => h) rfl hl.1 rfl (Nat.le_of_ble_eq_true rfl) dX10_law_41 ⟨by decide, by decide⟩ ⟨Nat.zero_le _, Nat.zero_le _⟩ (fun H locs hP hS => ?_)
          refine lv_if_eq (tgt := 62) hx hb dX10_law_44 (by decide) (fun c130 => ?_) (fun c130 => ?_)
          · have h := g_ift c130 h
            refine lv_aload_n hx hb dX10_law_62 rfl (lv_at hl 1 rfl) ?_
            refine lv_ldc hx hb hown (ht _ m_837) dX10_law_63 ?_
            obtain ⟨r132, σ131, hcr132, h⟩ := g_bd h
            refine g_callV (As := [.int (-100001)]) (n := 1) hx hb hml hown ht (c_X10_finding l G _ _ hcr132) m_838 m_840 m_14 m_41 m_841 (by decide +kernel) (by decide) gE_101 rfl hE hP hS (fun _ h => h) (fun _ _ h => h) rfl hl.1 rfl (Nat.le_of_ble_eq_true rfl) dX10_law_65 ⟨by decide, by decide⟩ ⟨Nat.zero_le _, Nat.zero_le _⟩ (fun H locs hP hS => ?_)
            exact g_iret hx hb hr hlk hE hP hS h dX10_law_68
          · have h := g_iff c130 h
            refine lv_iload_n hx hb dX10_law_47 rfl (lv_at hl 4 rfl) ?_
            obtain ⟨r134, σ133, hcr134, h⟩ := g_bd h
            refine g_callS (As := [.int a3]) (n := 1) hx hb hml hown ht (c_X10_isDay l G _ _ hcr134) m_856 m_857 m_41 m_858 (by decide +kernel) hE hP hS (fun _ h => h) (fun _ _ h => h) rfl hl.1 rfl (Nat.le_of_ble_eq_true rfl) dX10_law_48 ⟨by decide, by decide⟩ ⟨Nat.zero_le _, Nat.zero_le _⟩ (fun H locs hP hS => ?_)
            refine lv_if_eq (tgt := 62) hx hb dX10_law_51 (by decide) (fun c135 => ?_) (fun c135 => ?_)
            · have h := g_ift c135 h
              refine lv_aload_n hx hb dX10_law_62 rfl (lv_at hl 1 rfl) ?_
              refine lv_ldc hx hb hown (ht _ m_837) dX10_law_63 ?_
              obtain ⟨r137, σ136, hcr137, h⟩ := g_bd h
              refine g_callV (As := [.int (-100001)]) (n := 1) hx hb hml hown ht (c_X10_finding l G _ _ hcr137) m_838 m_840 m_14 m_41 m_841 (by decide +kernel) (by decide) gE_101 rfl hE hP hS (fun _ h => h) (fun _ _ h => h) rfl hl.1 rfl (Nat.le_of_ble_eq_true rfl) dX10_law_65 ⟨by decide, by decide⟩ ⟨Nat.zero_le _, Nat.zero_le _⟩ (fun H locs hP hS => ?_)
              exact g_iret hx hb hr hlk hE hP hS h dX10_law_68
            · have h := g_iff c135 h
              refine lv_iload hx hb dX10_law_54 (lv_at hl 5 rfl) ?_
              obtain ⟨r139, σ138, hcr139, h⟩ := g_bd h
              refine g_callS (As := [.int a4]) (n := 1) hx hb hml hown ht (c_X10_isDay l G _ _ hcr139) m_856 m_857 m_41 m_858 (by decide +kernel) hE hP hS (fun _ h => h) (fun _ _ h => h) rfl hl.1 rfl (Nat.le_of_ble_eq_true rfl) dX10_law_56 ⟨by decide, by decide⟩ ⟨Nat.zero_le _, Nat.zero_le _⟩ (fun H locs hP hS => ?_)
              refine lv_if_ne (tgt := 69) hx hb dX10_law_59 (by decide) (fun c140 => ?_) (fun c140 => ?_)
              · have h := g_iff c140 h
                refine lv_iload_n hx hb dX10_law_69 rfl (lv_at hl 4 rfl) ?_
                refine lv_iload hx hb dX10_law_70 (lv_at hl 5 rfl) ?_
                refine lv_icmp_le (tgt := 82) hx hb dX10_law_72 (by decide) (fun c141 => ?_) (fun c141 => ?_)
                · have h := g_ift c141 h
                  refine lv_aload_n hx hb dX10_law_82 rfl (lv_at hl 1 rfl) ?_
                  refine g_get hx hb ht hown hE hP (by decide) gE_101 uX10 rfl 0 (by decide) m_790 rfl rfl dX10_law_83 ?_
                  refine lv_iconst (v := 3) hx hb dX10_law_86 (by decide) ?_
                  obtain ⟨i142, h⟩ := g_ix h
                  refine g_iald hx hb hE hP (by decide) rfl (by decide) i142 dX10_law_87 ?_
                  refine lv_topi (fun x143 ex143 => ?_)
                  have h := g_nm ex143 h
                  refine lv_istore (lv' := [(6, .int x143), (5, .int 1), (0, .ref (G.2.2.1 101)), (1, .int a1), (2, .int a2), (3, .int a3), (4, .int a4)]) hx hb dX10_law_88 hl (by decide) rfl (fun ls hl => ?_)
                  refine lv_iload hx hb dX10_law_90 (lv_at hl 0 rfl) ?_
                  refine lv_bipush (v := 12) hx hb dX10_law_92 (by decide) ?_
                  refine lv_icmp_ne (tgt := 104) hx hb dX10_law_94 (by decide) (fun c144 => ?_) (fun c144 => ?_)
                  · have h := g_iff c144 h
                    refine lv_aload_n hx hb dX10_law_104 rfl (lv_at hl 2 rfl) ?_
                    refine g_get hx hb ht hown hE hP (by decide) gE_101 uX10 rfl 0 (by decide) m_790 rfl rfl dX10_law_105 ?_
                    refine lv_sipush (v := 321) hx hb dX10_law_108 (by decide) ?_
                    refine lv_iload hx hb dX10_law_111 (lv_at hl 0 rfl) ?_
                    refine lv_iadd hx hb dX10_law_113 ?_
                    refine lv_iload_n hx hb dX10_law_114 rfl (lv_at hl 3 rfl) ?_
                    obtain ⟨i145, h⟩ := g_ix h
                    refine g_iast hx hb hE hP hS (by decide) rfl (by decide) i145 dX10_law_115 (fun H locs σ146 eσ146 hP hS => ?_)
                    have h := g_nm eσ146 h
                    refine lv_aload_n hx hb dX10_law_116 rfl (lv_at hl 2 rfl) ?_
                    refine g_get hx hb ht hown hE hP (by decide) gE_101 uX10 rfl 0 (by decide) m_790 rfl rfl dX10_law_117 ?_
                    refine lv_sipush (v := 333) hx hb dX10_law_120 (by decide) ?_
                    refine lv_iload hx hb dX10_law_123 (lv_at hl 0 rfl) ?_
                    refine lv_iadd hx hb dX10_law_125 ?_
                    refine lv_iload hx hb dX10_law_126 (lv_at hl 1 rfl) ?_
                    refine lv_if_eq (tgt := 135) hx hb dX10_law_128 (by decide) (fun c147 => absurd c147 (by decide)) (fun _ => ?_)
                    refine lv_iload_n hx hb dX10_law_131 rfl (lv_at hl 4 rfl) ?_
                    refine lv_goto (tgt := 136) hx hb dX10_law_132 (by decide) ?_
                    obtain ⟨i148, h⟩ := g_ix h
                    refine g_iast hx hb hE hP hS (by decide) rfl (by decide) i148 dX10_law_136 (fun H locs σ149 eσ149 hP hS => ?_)
                    have h := g_nm eσ149 h
                    refine lv_aload_n hx hb dX10_law_137 rfl (lv_at hl 2 rfl) ?_
                    refine g_get hx hb ht hown hE hP (by decide) gE_101 uX10 rfl 0 (by decide) m_790 rfl rfl dX10_law_138 ?_
                    refine lv_sipush (v := 345) hx hb dX10_law_141 (by decide) ?_
                    refine lv_iload hx hb dX10_law_144 (lv_at hl 0 rfl) ?_
                    refine lv_iadd hx hb dX10_law_146 ?_
                    refine lv_iload_n hx hb dX10_law_147 rfl (lv_at hl 5 rfl) ?_
                    obtain ⟨i150, h⟩ := g_ix h
                    refine g_iast hx hb hE hP hS (by decide) rfl (by decide) i150 dX10_law_148 (fun H locs σ151 eσ151 hP hS => ?_)
                    have h := g_nm eσ151 h
                    refine lv_aload_n hx hb dX10_law_149 rfl (lv_at hl 2 rfl) ?_
                    refine g_get hx hb ht hown hE hP (by decide) gE_101 uX10 rfl 0 (by decide) m_790 rfl rfl dX10_law_150 ?_
                    refine lv_sipush (v := 357) hx hb dX10_law_153 (by decide) ?_
                    refine lv_iload hx hb dX10_law_156 (lv_at hl 0 rfl) ?_
                    refine lv_iadd hx hb dX10_law_158 ?_
                    refine lv_iload hx hb dX10_law_159 (lv_at hl 6 rfl) ?_
                    obtain ⟨i152, h⟩ := g_ix h
                    refine g_iast hx hb hE hP hS (by decide) rfl (by decide) i152 dX10_law_161 (fun H locs σ153 eσ153 hP hS => ?_)
                    have h := g_nm eσ153 h
                    refine lv_aload_n hx hb dX10_law_162 rfl (lv_at hl 2 rfl) ?_
                    refine g_get hx hb ht hown hE hP (by decide) gE_101 uX10 rfl 0 (by decide) m_790 rfl rfl dX10_law_163 ?_
                    refine lv_iconst (v := 3) hx hb dX10_law_166 (by decide) ?_
                    refine lv_dup2_11 hx hb dX10_law_167 rfl rfl ?_
                    obtain ⟨i154, h⟩ := g_ix h
                    refine g_iald hx hb hE hP (by decide) rfl (by decide) i154 dX10_law_168 ?_
                    refine lv_iconst (v := 1) hx hb dX10_law_169 (by decide) ?_
                    refine lv_iadd hx hb dX10_law_170 ?_
                    obtain ⟨i155, h⟩ := g_ix h
                    refine g_iast hx hb hE hP hS (by decide) rfl (by decide) i155 dX10_law_171 (fun H locs σ156 eσ156 hP hS => ?_)
                    have h := g_nm eσ156 h
                    refine lv_iload hx hb dX10_law_172 (lv_at hl 0 rfl) ?_
                    exact g_iret hx hb hr hlk hE hP hS h dX10_law_174
                  · have h := g_ift c144 h
                    refine lv_aload_n hx hb dX10_law_97 rfl (lv_at hl 2 rfl) ?_
                    refine lv_ldc hx hb hown (ht _ m_842) dX10_law_98 ?_
                    obtain ⟨r158, σ157, hcr158, h⟩ := g_bd h
                    refine g_callV (As := [.int (-100005)]) (n := 1) hx hb hml hown ht (c_X10_finding l G _ _ hcr158) m_838 m_840 m_14 m_41 m_841 (by decide +kernel) (by decide) gE_101 rfl hE hP hS (fun _ h => h) (fun _ _ h => h) rfl hl.1 rfl (Nat.le_of_ble_eq_true rfl) dX10_law_100 ⟨by decide, by decide⟩ ⟨Nat.zero_le _, Nat.zero_le _⟩ (fun H locs hP hS => ?_)
                    exact g_iret hx hb hr hlk hE hP hS h dX10_law_103
                · have h := g_iff c141 h
                  refine lv_aload_n hx hb dX10_law_75 rfl (lv_at hl 1 rfl) ?_
                  refine lv_ldc hx hb hown (ht _ m_851) dX10_law_76 ?_
                  obtain ⟨r160, σ159, hcr160, h⟩ := g_bd h
                  refine g_callV (As := [.int (-100003)]) (n := 1) hx hb hml hown ht (c_X10_finding l G _ _ hcr160) m_838 m_840 m_14 m_41 m_841 (by decide +kernel) (by decide) gE_101 rfl hE hP hS (fun _ h => h) (fun _ _ h => h) rfl hl.1 rfl (Nat.le_of_ble_eq_true rfl) dX10_law_78 ⟨by decide, by decide⟩ ⟨Nat.zero_le _, Nat.zero_le _⟩ (fun H locs hP hS => ?_)
                  exact g_iret hx hb hr hlk hE hP hS h dX10_law_81
              · have h := g_ift c140 h
                refine lv_aload_n hx hb dX10_law_62 rfl (lv_at hl 1 rfl) ?_
                refine lv_ldc hx hb hown (ht _ m_837) dX10_law_63 ?_
                obtain ⟨r162, σ161, hcr162, h⟩ := g_bd h
                refine g_callV (As := [.int (-100001)]) (n := 1) hx hb hml hown ht (c_X10_finding l G _ _ hcr162) m_838 m_840 m_14 m_41 m_841 (by decide +kernel) (by decide) gE_101 rfl hE hP hS (fun _ h => h) (fun _ _ h => h) rfl hl.1 rfl (Nat.le_of_ble_eq_true rfl) dX10_law_65 ⟨by decide, by decide⟩ ⟨Nat.zero_le _, Nat.zero_le _⟩ (fun H locs hP hS => ?_)
                exact g_iret hx hb hr hlk hE hP hS h dX10_law_68

def M_X10_ends (a1 a2 : Int32) (σ : gSt) : gO :=
  gIx 549 3 (gBd (M_X10_within a1 0 ((σ 102 (3 : Int32).toNatClampNeg) - 1) σ) (fun r3 σ2 => if r3 = 0 then (gBd (M_X10_finding (-100001) σ2) (fun r6 σ5 => some (r6, σ5))) else (gBd (M_X10_isDay a2 σ2) (fun r8 σ7 => if r8 = 0 then (gBd (M_X10_finding (-100001) σ7) (fun r19 σ18 => some (r19, σ18))) else (gIx 549 ((345 : Int32) + a1) (if (σ7 102 ((345 : Int32) + a1).toNatClampNeg) ≤ a2 then (gIx 549 ((357 : Int32) + a1) (gNm ((σ7 102 ((357 : Int32) + a1).toNatClampNeg) : Int32) (fun x13 => gIx 549 ((357 : Int32) + a1) (gNm (gUp σ7 102 ((357 : Int32) + a1).toNatClampNeg a2) (fun σ15 => some (x13, σ15)))))) else (gBd (M_X10_finding (-100003) σ7) (fun r17 σ16 => some (r17, σ16)))))))))
set_option maxHeartbeats 4000000 in
set_option maxRecDepth 100000 in
theorem c_X10_ends (l : Launch) (G : gPar) (a1 a2 : Int32) (σ : gSt) {r : Int32} {σ' : gSt} (h : M_X10_ends a1 a2 σ = some (r, σ')) : gC l G yX10_ends cX10_ends 4 (some .int) 2 42 [.ref (G.2.2.1 101), .int a1, .int a2] σ r σ' := by
  refine gC_of (by decide) (Nat.le_of_ble_eq_true rfl) ?_
  intro p e s m below meth c hx hb hr ht hown hlk hml hE hP ls hl
  have hS : va_S (gA G) s.heap s.heap [] := va_S.rf
  have hl : lv_has ls 4 [(0, .ref (G.2.2.1 101)), (1, .int a1), (2, .int a2)] := hl
  unfold M_X10_ends at h
  refine lv_iload_n hx hb dX10_ends_0 rfl (lv_at hl 1 rfl) ?_
  refine lv_iconst (v := 0) hx hb dX10_ends_1 (by decide) ?_
  refine lv_aload_n hx hb dX10_ends_2 rfl (lv_at hl 0 rfl) ?_
  refine g_get hx hb ht hown hE hP (by decide) gE_101 uX10 rfl 0 (by decide) m_790 rfl rfl dX10_ends_3 ?_
  refine lv_iconst (v := 3) hx hb dX10_ends_6 (by decide) ?_
  obtain ⟨i1, h⟩ := g_ix h
  refine g_iald hx hb hE hP (by decide) rfl (by decide) i1 dX10_ends_7 ?_
  refine lv_iconst (v := 1) hx hb dX10_ends_8 (by decide) ?_
  refine lv_isub hx hb dX10_ends_9 ?_
  obtain ⟨r3, σ2, hcr3, h⟩ := g_bd h
  refine g_callS (As := [.int a1, .int 0, .int ((σ 102 (3 : Int32).toNatClampNeg) - 1)]) (n := 3) hx hb hml hown ht (c_X10_within l G _ _ _ _ hcr3) m_834 m_835 m_41 m_836 (by decide +kernel) hE hP hS (fun _ h => h) (fun _ _ h => h) rfl hl.1 rfl (Nat.le_of_ble_eq_true rfl) dX10_ends_10 ⟨by decide, by decide⟩ ⟨Nat.zero_le _, Nat.zero_le _⟩ (fun H locs hP hS => ?_)
  refine lv_if_eq (tgt := 23) hx hb dX10_ends_13 (by decide) (fun c4 => ?_) (fun c4 => ?_)
  · have h := g_ift c4 h
    refine lv_aload_n hx hb dX10_ends_23 rfl (lv_at hl 0 rfl) ?_
    refine lv_ldc hx hb hown (ht _ m_837) dX10_ends_24 ?_
    obtain ⟨r6, σ5, hcr6, h⟩ := g_bd h
    refine g_callV (As := [.int (-100001)]) (n := 1) hx hb hml hown ht (c_X10_finding l G _ _ hcr6) m_838 m_840 m_14 m_41 m_841 (by decide +kernel) (by decide) gE_101 rfl hE hP hS (fun _ h => h) (fun _ _ h => h) rfl hl.1 rfl (Nat.le_of_ble_eq_true rfl) dX10_ends_26 ⟨by decide, by decide⟩ ⟨Nat.zero_le _, Nat.zero_le _⟩ (fun H locs hP hS => ?_)
    exact g_iret hx hb hr hlk hE hP hS h dX10_ends_29
  · have h := g_iff c4 h
    refine lv_iload_n hx hb dX10_ends_16 rfl (lv_at hl 2 rfl) ?_
    obtain ⟨r8, σ7, hcr8, h⟩ := g_bd h
    refine g_callS (As := [.int a2]) (n := 1) hx hb hml hown ht (c_X10_isDay l G _ _ hcr8) m_856 m_857 m_41 m_858 (by decide +kernel) hE hP hS (fun _ h => h) (fun _ _ h => h) rfl hl.1 rfl (Nat.le_of_ble_eq_true rfl) dX10_ends_17 ⟨by decide, by decide⟩ ⟨Nat.zero_le _, Nat.zero_le _⟩ (fun H locs hP hS => ?_)
    refine lv_if_ne (tgt := 30) hx hb dX10_ends_20 (by decide) (fun c9 => ?_) (fun c9 => ?_)
    · have h := g_iff c9 h
      refine lv_iload_n hx hb dX10_ends_30 rfl (lv_at hl 2 rfl) ?_
      refine lv_aload_n hx hb dX10_ends_31 rfl (lv_at hl 0 rfl) ?_
      refine g_get hx hb ht hown hE hP (by decide) gE_101 uX10 rfl 0 (by decide) m_790 rfl rfl dX10_ends_32 ?_
      refine lv_sipush (v := 345) hx hb dX10_ends_35 (by decide) ?_
      refine lv_iload_n hx hb dX10_ends_38 rfl (lv_at hl 1 rfl) ?_
      refine lv_iadd hx hb dX10_ends_39 ?_
      obtain ⟨i10, h⟩ := g_ix h
      refine g_iald hx hb hE hP (by decide) rfl (by decide) i10 dX10_ends_40 ?_
      refine lv_icmp_ge (tgt := 51) hx hb dX10_ends_41 (by decide) (fun c11 => ?_) (fun c11 => ?_)
      · have h := g_ift c11 h
        refine lv_aload_n hx hb dX10_ends_51 rfl (lv_at hl 0 rfl) ?_
        refine g_get hx hb ht hown hE hP (by decide) gE_101 uX10 rfl 0 (by decide) m_790 rfl rfl dX10_ends_52 ?_
        refine lv_sipush (v := 357) hx hb dX10_ends_55 (by decide) ?_
        refine lv_iload_n hx hb dX10_ends_58 rfl (lv_at hl 1 rfl) ?_
        refine lv_iadd hx hb dX10_ends_59 ?_
        obtain ⟨i12, h⟩ := g_ix h
        refine g_iald hx hb hE hP (by decide) rfl (by decide) i12 dX10_ends_60 ?_
        refine lv_topi (fun x13 ex13 => ?_)
        have h := g_nm ex13 h
        refine lv_istore_n (lv' := [(3, .int x13), (0, .ref (G.2.2.1 101)), (1, .int a1), (2, .int a2)]) hx hb dX10_ends_61 rfl hl (by decide) rfl (fun ls hl => ?_)
        refine lv_aload_n hx hb dX10_ends_62 rfl (lv_at hl 1 rfl) ?_
        refine g_get hx hb ht hown hE hP (by decide) gE_101 uX10 rfl 0 (by decide) m_790 rfl rfl dX10_ends_63 ?_
        refine lv_sipush (v := 357) hx hb dX10_ends_66 (by decide) ?_
        refine lv_iload_n hx hb dX10_ends_69 rfl (lv_at hl 2 rfl) ?_
        refine lv_iadd hx hb dX10_ends_70 ?_
        refine lv_iload_n hx hb dX10_ends_71 rfl (lv_at hl 3 rfl) ?_
        obtain ⟨i14, h⟩ := g_ix h
        refine g_iast hx hb hE hP hS (by decide) rfl (by decide) i14 dX10_ends_72 (fun H locs σ15 eσ15 hP hS => ?_)
        have h := g_nm eσ15 h
        refine lv_iload_n hx hb dX10_ends_73 rfl (lv_at hl 0 rfl) ?_
        exact g_iret hx hb hr hlk hE hP hS h dX10_ends_74
      · have h := g_iff c11 h
        refine lv_aload_n hx hb dX10_ends_44 rfl (lv_at hl 0 rfl) ?_
        refine lv_ldc hx hb hown (ht _ m_851) dX10_ends_45 ?_
        obtain ⟨r17, σ16, hcr17, h⟩ := g_bd h
        refine g_callV (As := [.int (-100003)]) (n := 1) hx hb hml hown ht (c_X10_finding l G _ _ hcr17) m_838 m_840 m_14 m_41 m_841 (by decide +kernel) (by decide) gE_101 rfl hE hP hS (fun _ h => h) (fun _ _ h => h) rfl hl.1 rfl (Nat.le_of_ble_eq_true rfl) dX10_ends_47 ⟨by decide, by decide⟩ ⟨Nat.zero_le _, Nat.zero_le _⟩ (fun H locs hP hS => ?_)
        exact g_iret hx hb hr hlk hE hP hS h dX10_ends_50
    · have h := g_ift c9 h
      refine lv_aload_n hx hb dX10_ends_23 rfl (lv_at hl 0 rfl) ?_
      refine lv_ldc hx hb hown (ht _ m_837) dX10_ends_24 ?_
      obtain ⟨r19, σ18, hcr19, h⟩ := g_bd h
      refine g_callV (As := [.int (-100001)]) (n := 1) hx hb hml hown ht (c_X10_finding l G _ _ hcr19) m_838 m_840 m_14 m_41 m_841 (by decide +kernel) (by decide) gE_101 rfl hE hP hS (fun _ h => h) (fun _ _ h => h) rfl hl.1 rfl (Nat.le_of_ble_eq_true rfl) dX10_ends_26 ⟨by decide, by decide⟩ ⟨Nat.zero_le _, Nat.zero_le _⟩ (fun H locs hP hS => ?_)
      exact g_iret hx hb hr hlk hE hP hS h dX10_ends_29

def M_X10_isForce (a1 a2 a3 : Int32) (σ : gSt) : gO :=
  gIx 549 ((321 : Int32) + a1) (if (σ 102 ((321 : Int32) + a1).toNatClampNeg) = a2 then (gIx 549 ((345 : Int32) + a1) (if a3 < (σ 102 ((345 : Int32) + a1).toNatClampNeg) then (some (0, σ)) else (gIx 549 ((357 : Int32) + a1) (if (σ 102 ((357 : Int32) + a1).toNatClampNeg) < a3 then (some (0, σ)) else (some (1, σ)))))) else (some (0, σ)))
set_option maxHeartbeats 4000000 in
set_option maxRecDepth 100000 in
theorem c_X10_isForce (l : Launch) (G : gPar) (a1 a2 a3 : Int32) (σ : gSt) {r : Int32} {σ' : gSt} (h : M_X10_isForce a1 a2 a3 σ = some (r, σ')) : gC l G yX10_isForce cX10_isForce 4 (some .boolean) 0 0 [.ref (G.2.2.1 101), .int a1, .int a2, .int a3] σ r σ' := by
  refine gC_of (by decide) (Nat.le_of_ble_eq_true rfl) ?_
  intro p e s m below meth c hx hb hr ht hown hlk hml hE hP ls hl
  have hS : va_S (gA G) s.heap s.heap [] := va_S.rf
  have hl : lv_has ls 4 [(0, .ref (G.2.2.1 101)), (1, .int a1), (2, .int a2), (3, .int a3)] := hl
  unfold M_X10_isForce at h
  refine lv_aload_n hx hb dX10_isForce_0 rfl (lv_at hl 0 rfl) ?_
  refine g_get hx hb ht hown hE hP (by decide) gE_101 uX10 rfl 0 (by decide) m_790 rfl rfl dX10_isForce_1 ?_
  refine lv_sipush (v := 321) hx hb dX10_isForce_4 (by decide) ?_
  refine lv_iload_n hx hb dX10_isForce_7 rfl (lv_at hl 1 rfl) ?_
  refine lv_iadd hx hb dX10_isForce_8 ?_
  obtain ⟨i1, h⟩ := g_ix h
  refine g_iald hx hb hE hP (by decide) rfl (by decide) i1 dX10_isForce_9 ?_
  refine lv_iload_n hx hb dX10_isForce_10 rfl (lv_at hl 2 rfl) ?_
  refine lv_icmp_ne (tgt := 46) hx hb dX10_isForce_11 (by decide) (fun c2 => ?_) (fun c2 => ?_)
  · have h := g_iff c2 h
    refine lv_iconst (v := 0) hx hb dX10_isForce_46 (by decide) ?_
    exact g_zret hx hb hr hlk hE hP hS (by decide) h dX10_isForce_47
  · have h := g_ift c2 h
    refine lv_aload_n hx hb dX10_isForce_14 rfl (lv_at hl 0 rfl) ?_
    refine g_get hx hb ht hown hE hP (by decide) gE_101 uX10 rfl 0 (by decide) m_790 rfl rfl dX10_isForce_15 ?_
    refine lv_sipush (v := 345) hx hb dX10_isForce_18 (by decide) ?_
    refine lv_iload_n hx hb dX10_isForce_21 rfl (lv_at hl 1 rfl) ?_
    refine lv_iadd hx hb dX10_isForce_22 ?_
    obtain ⟨i3, h⟩ := g_ix h
    refine g_iald hx hb hE hP (by decide) rfl (by decide) i3 dX10_isForce_23 ?_
    refine lv_iload_n hx hb dX10_isForce_24 rfl (lv_at hl 3 rfl) ?_
    refine lv_icmp_gt (tgt := 46) hx hb dX10_isForce_25 (by decide) (fun c4 => ?_) (fun c4 => ?_)
    · have h := g_ift c4 h
      refine lv_iconst (v := 0) hx hb dX10_isForce_46 (by decide) ?_
      exact g_zret hx hb hr hlk hE hP hS (by decide) h dX10_isForce_47
    · have h := g_iff c4 h
      refine lv_iload_n hx hb dX10_isForce_28 rfl (lv_at hl 3 rfl) ?_
      refine lv_aload_n hx hb dX10_isForce_29 rfl (lv_at hl 0 rfl) ?_
      refine g_get hx hb ht hown hE hP (by decide) gE_101 uX10 rfl 0 (by decide) m_790 rfl rfl dX10_isForce_30 ?_
      refine lv_sipush (v := 357) hx hb dX10_isForce_33 (by decide) ?_
      refine lv_iload_n hx hb dX10_isForce_36 rfl (lv_at hl 1 rfl) ?_
      refine lv_iadd hx hb dX10_isForce_37 ?_
      obtain ⟨i5, h⟩ := g_ix h
      refine g_iald hx hb hE hP (by decide) rfl (by decide) i5 dX10_isForce_38 ?_
      refine lv_icmp_gt (tgt := 46) hx hb dX10_isForce_39 (by decide) (fun c6 => ?_) (fun c6 => ?_)
      · have h := g_ift c6 h
        refine lv_iconst (v := 0) hx hb dX10_isForce_46 (by decide) ?_
        exact g_zret hx hb hr hlk hE hP hS (by decide) h dX10_isForce_47
      · have h := g_iff c6 h
        refine lv_iconst (v := 1) hx hb dX10_isForce_42 (by decide) ?_
        refine lv_goto (tgt := 47) hx hb dX10_isForce_43 (by decide) ?_
        exact g_zret hx hb hr hlk hE hP hS (by decide) h dX10_isForce_47

def L1_X10_hasLaw (a1 a2 a3 : Int32) : Nat → Int32 → Int32 → gSt → (Int32 → Int32 → gSt → gO) → gO
  | 0, _, _, _, _ => none
  | nL1 + 1, l1_5, l1_4, σL1, kL1 =>
    gIx 549 3 (if (σL1 102 (3 : Int32).toNatClampNeg) ≤ l1_5 then (kL1 l1_5 l1_4 σL1) else (if l1_4 = 0 then (gBd (M_X10_isForce l1_5 a1 a2 σL1) (fun r7 σ6 => if r7 = 0 then (gNm (l1_5 + 1 : Int32) (fun x9 => L1_X10_hasLaw a1 a2 a3 nL1 x9 0 σ6 kL1)) else (gIx 549 ((333 : Int32) + l1_5) (if a3 < (σ6 102 ((333 : Int32) + l1_5).toNatClampNeg) then (gNm (l1_5 + 1 : Int32) (fun x12 => L1_X10_hasLaw a1 a2 a3 nL1 x12 0 σ6 kL1)) else (gNm (l1_5 + 1 : Int32) (fun x13 => L1_X10_hasLaw a1 a2 a3 nL1 x13 1 σ6 kL1)))))) else (gNm (l1_5 + 1 : Int32) (fun x5 => L1_X10_hasLaw a1 a2 a3 nL1 x5 1 σL1 kL1))))
def M_X10_hasLaw (a1 a2 a3 : Int32) (σ : gSt) : gO :=
  L1_X10_hasLaw a1 a2 a3 gFu 0 0 σ (fun z14 z15 σ16 => gGd (z15 = 0 ∨ z15 = 1) (some (z15, σ16)))
set_option maxHeartbeats 4000000 in
set_option maxRecDepth 100000 in
theorem c_X10_hasLaw (l : Launch) (G : gPar) (a1 a2 a3 : Int32) (σ : gSt) {r : Int32} {σ' : gSt} (h : M_X10_hasLaw a1 a2 a3 σ = some (r, σ')) : gC l G yX10_hasLaw cX10_hasLaw 6 (some .boolean) 1 23 [.ref (G.2.2.1 101), .int a1, .int a2, .int a3] σ r σ' := by
  refine gC_of (by decide) (Nat.le_of_ble_eq_true rfl) ?_
  intro p e s m below meth c hx hb hr ht hown hlk hml hE hP ls hl
  have hS : va_S (gA G) s.heap s.heap [] := va_S.rf
  have hl : lv_has ls 6 [(0, .ref (G.2.2.1 101)), (1, .int a1), (2, .int a2), (3, .int a3)] := hl
  unfold M_X10_hasLaw at h
  refine lv_iconst (v := 0) hx hb dX10_hasLaw_0 (by decide) ?_
  refine lv_istore (lv' := [(4, .int 0), (0, .ref (G.2.2.1 101)), (1, .int a1), (2, .int a2), (3, .int a3)]) hx hb dX10_hasLaw_1 hl (by decide) rfl (fun ls hl => ?_)
  refine lv_iconst (v := 0) hx hb dX10_hasLaw_3 (by decide) ?_
  refine lv_istore (lv' := [(5, .int 0), (4, .int 0), (0, .ref (G.2.2.1 101)), (1, .int a1), (2, .int a2), (3, .int a3)]) hx hb dX10_hasLaw_4 hl (by decide) rfl (fun ls hl => ?_)
  have LPL1 : ∀ (kL1 : Int32 → Int32 → gSt → gO), (∀ (l1_5 l1_4 : Int32) (σL1 : gSt) (H : Heap) (locs : List Loc) (ls : Array Slot), kL1 l1_5 l1_4 σL1 = some (r, σ') → gW G σL1 H → va_S (gA G) s.heap H locs → lv_has ls 6 [(5, .int l1_5), (4, .int l1_4), (0, .ref (G.2.2.1 101)), (1, .int a1), (2, .int a2), (3, .int a3)] → W p l e (gRm 1 23) s m ([.ref (G.2.2.1 101), .int a1, .int a2, .int a3].toArray) below meth c H locs 0 0 (MQ below (gQ G r σ') ([.ref (G.2.2.1 101), .int a1, .int a2, .int a3].toArray) s 0 0 (gA G)) (F0 m 61 ls [])) → ∀ (nL1 : Nat) (l1_5 l1_4 : Int32) (σL1 : gSt) (H : Heap) (locs : List Loc) (ls : Array Slot), L1_X10_hasLaw a1 a2 a3 nL1 l1_5 l1_4 σL1 kL1 = some (r, σ') → gW G σL1 H → va_S (gA G) s.heap H locs → lv_has ls 6 [(5, .int l1_5), (4, .int l1_4), (0, .ref (G.2.2.1 101)), (1, .int a1), (2, .int a2), (3, .int a3)] → W p l e (gRm 1 23) s m ([.ref (G.2.2.1 101), .int a1, .int a2, .int a3].toArray) below meth c H locs 0 0 (MQ below (gQ G r σ') ([.ref (G.2.2.1 101), .int a1, .int a2, .int a3].toArray) s 0 0 (gA G)) (F0 m 6 ls []) := by
    intro kL1 hKL1 nL1
    induction nL1 with
    | zero =>
      intro l1_5 l1_4 σL1 H locs ls h
      cases h
    | succ nL1 ihL1 =>
      intro l1_5 l1_4 σL1 H locs ls h hP hS hl
      rw [L1_X10_hasLaw] at h
      refine lv_iload hx hb dX10_hasLaw_6 (lv_at hl 0 rfl) ?_
      refine lv_aload_n hx hb dX10_hasLaw_8 rfl (lv_at hl 2 rfl) ?_
      refine g_get hx hb ht hown hE hP (by decide) gE_101 uX10 rfl 0 (by decide) m_790 rfl rfl dX10_hasLaw_9 ?_
      refine lv_iconst (v := 3) hx hb dX10_hasLaw_12 (by decide) ?_
      obtain ⟨i2, h⟩ := g_ix h
      refine g_iald hx hb hE hP (by decide) rfl (by decide) i2 dX10_hasLaw_13 ?_
      refine lv_icmp_ge (tgt := 61) hx hb dX10_hasLaw_14 (by decide) (fun c3 => ?_) (fun c3 => ?_)
      · have h := g_ift c3 h
        exact hKL1 _ _ _ _ _ _ h hP hS (lv_sub hl [0, 1, 2, 3, 4, 5] rfl)
      · have h := g_iff c3 h
        refine lv_iload hx hb dX10_hasLaw_17 (lv_at hl 1 rfl) ?_
        refine lv_if_ne (tgt := 48) hx hb dX10_hasLaw_19 (by decide) (fun c4 => ?_) (fun c4 => ?_)
        · have h := g_iff c4 h
          refine lv_iconst (v := 1) hx hb dX10_hasLaw_48 (by decide) ?_
          refine lv_goto (tgt := 53) hx hb dX10_hasLaw_49 (by decide) ?_
          refine lv_istore (lv' := [(4, .int 1), (5, .int l1_5), (0, .ref (G.2.2.1 101)), (1, .int a1), (2, .int a2), (3, .int a3)]) hx hb dX10_hasLaw_53 hl (by decide) rfl (fun ls hl => ?_)
          obtain ⟨x5, ex5⟩ : ∃ y : Int32, y = l1_5 + 1 := ⟨_, rfl⟩
          have h := g_nm ex5 h
          refine lv_iinc (v := x5) (lv' := [(5, .int x5), (4, .int 1), (0, .ref (G.2.2.1 101)), (1, .int a1), (2, .int a2), (3, .int a3)]) hx hb dX10_hasLaw_55 hl (k := 1) rfl (by rw [ex5]; rfl) (by decide) rfl (fun ls hl => ?_)
          refine lv_goto (tgt := 6) hx hb dX10_hasLaw_58 (by decide) ?_
          exact ihL1 _ _ _ _ _ _ h hP hS (lv_sub hl [0, 1, 2, 3, 4, 5] rfl)
        · have h := g_ift c4 h
          refine lv_aload_n hx hb dX10_hasLaw_22 rfl (lv_at hl 2 rfl) ?_
          refine lv_iload hx hb dX10_hasLaw_23 (lv_at hl 0 rfl) ?_
          refine lv_iload_n hx hb dX10_hasLaw_25 rfl (lv_at hl 3 rfl) ?_
          refine lv_iload_n hx hb dX10_hasLaw_26 rfl (lv_at hl 4 rfl) ?_
          obtain ⟨r7, σ6, hcr7, h⟩ := g_bd h
          refine g_callV (As := [.int l1_5, .int a1, .int a2]) (n := 3) hx hb hml hown ht (c_X10_isForce l G _ _ _ _ hcr7) m_922 m_924 m_22 m_41 m_925 (by decide +kernel) (by decide) gE_101 rfl hE hP hS (fun _ h => h) (fun _ _ h => h) rfl hl.1 rfl (Nat.le_of_ble_eq_true rfl) dX10_hasLaw_27 ⟨by decide, by decide⟩ ⟨Nat.zero_le _, Nat.zero_le _⟩ (fun H locs hP hS => ?_)
          refine lv_if_eq (tgt := 52) hx hb dX10_hasLaw_30 (by decide) (fun c8 => ?_) (fun c8 => ?_)
          · have h := g_ift c8 h
            refine lv_iconst (v := 0) hx hb dX10_hasLaw_52 (by decide) ?_
            refine lv_istore (lv' := [(4, .int 0), (5, .int l1_5), (0, .ref (G.2.2.1 101)), (1, .int a1), (2, .int a2), (3, .int a3)]) hx hb dX10_hasLaw_53 hl (by decide) rfl (fun ls hl => ?_)
            obtain ⟨x9, ex9⟩ : ∃ y : Int32, y = l1_5 + 1 := ⟨_, rfl⟩
            have h := g_nm ex9 h
            refine lv_iinc (v := x9) (lv' := [(5, .int x9), (4, .int 0), (0, .ref (G.2.2.1 101)), (1, .int a1), (2, .int a2), (3, .int a3)]) hx hb dX10_hasLaw_55 hl (k := 1) rfl (by rw [ex9]; rfl) (by decide) rfl (fun ls hl => ?_)
            refine lv_goto (tgt := 6) hx hb dX10_hasLaw_58 (by decide) ?_
            exact ihL1 _ _ _ _ _ _ h hP hS (lv_sub hl [0, 1, 2, 3, 4, 5] rfl)
          · have h := g_iff c8 h
            refine lv_aload_n hx hb dX10_hasLaw_33 rfl (lv_at hl 2 rfl) ?_
            refine g_get hx hb ht hown hE hP (by decide) gE_101 uX10 rfl 0 (by decide) m_790 rfl rfl dX10_hasLaw_34 ?_
            refine lv_sipush (v := 333) hx hb dX10_hasLaw_37 (by decide) ?_
            refine lv_iload hx hb dX10_hasLaw_40 (lv_at hl 0 rfl) ?_
            refine lv_iadd hx hb dX10_hasLaw_42 ?_
            obtain ⟨i10, h⟩ := g_ix h
            refine g_iald hx hb hE hP (by decide) rfl (by decide) i10 dX10_hasLaw_43 ?_
            refine lv_iload_n hx hb dX10_hasLaw_44 rfl (lv_at hl 5 rfl) ?_
            refine lv_icmp_gt (tgt := 52) hx hb dX10_hasLaw_45 (by decide) (fun c11 => ?_) (fun c11 => ?_)
            · have h := g_ift c11 h
              refine lv_iconst (v := 0) hx hb dX10_hasLaw_52 (by decide) ?_
              refine lv_istore (lv' := [(4, .int 0), (5, .int l1_5), (0, .ref (G.2.2.1 101)), (1, .int a1), (2, .int a2), (3, .int a3)]) hx hb dX10_hasLaw_53 hl (by decide) rfl (fun ls hl => ?_)
              obtain ⟨x12, ex12⟩ : ∃ y : Int32, y = l1_5 + 1 := ⟨_, rfl⟩
              have h := g_nm ex12 h
              refine lv_iinc (v := x12) (lv' := [(5, .int x12), (4, .int 0), (0, .ref (G.2.2.1 101)), (1, .int a1), (2, .int a2), (3, .int a3)]) hx hb dX10_hasLaw_55 hl (k := 1) rfl (by rw [ex12]; rfl) (by decide) rfl (fun ls hl => ?_)
              refine lv_goto (tgt := 6) hx hb dX10_hasLaw_58 (by decide) ?_
              exact ihL1 _ _ _ _ _ _ h hP hS (lv_sub hl [0, 1, 2, 3, 4, 5] rfl)
            · have h := g_iff c11 h
              refine lv_iconst (v := 1) hx hb dX10_hasLaw_48 (by decide) ?_
              refine lv_goto (tgt := 53) hx hb dX10_hasLaw_49 (by decide) ?_
              refine lv_istore (lv' := [(4, .int 1), (5, .int l1_5), (0, .ref (G.2.2.1 101)), (1, .int a1), (2, .int a2), (3, .int a3)]) hx hb dX10_hasLaw_53 hl (by decide) rfl (fun ls hl => ?_)
              obtain ⟨x13, ex13⟩ : ∃ y : Int32, y = l1_5 + 1 := ⟨_, rfl⟩
              have h := g_nm ex13 h
              refine lv_iinc (v := x13) (lv' := [(5, .int x13), (4, .int 1), (0, .ref (G.2.2.1 101)), (1, .int a1), (2, .int a2), (3, .int a3)]) hx hb dX10_hasLaw_55 hl (k := 1) rfl (by rw [ex13]; rfl) (by decide) rfl (fun ls hl => ?_)
              refine lv_goto (tgt := 6) hx hb dX10_hasLaw_58 (by decide) ?_
              exact ihL1 _ _ _ _ _ _ h hP hS (lv_sub hl [0, 1, 2, 3, 4, 5] rfl)
  refine LPL1 _ (fun z14 z15 σ16 H locs ls h hP hS hl => ?_) gFu _ _ _ _ _ _ h hP hS (lv_sub hl [0, 1, 2, 3, 4, 5] rfl)
  refine lv_iload hx hb dX10_hasLaw_61 (lv_at hl 1 rfl) ?_
  obtain ⟨z17, h⟩ := g_gd h
  exact g_zret hx hb hr hlk hE hP hS z17 h dX10_hasLaw_63

def L4_X10_ownOf (x2 a1 a2 a3 : Int32) : Nat → Int32 → Int32 → Int32 → gSt → (Int32 → Int32 → Int32 → gSt → gO) → gO
  | 0, _, _, _, _, _ => none
  | nL4 + 1, l4_7, l4_5, l4_4, σL4, kL4 =>
    gIx 549 2 (if (σL4 102 (2 : Int32).toNatClampNeg) ≤ l4_7 then (kL4 l4_7 l4_5 l4_4 σL4) else (gIx 549 ((153 : Int32) + l4_7) (if (σL4 102 ((153 : Int32) + l4_7).toNatClampNeg) = a1 then (gIx 549 ((273 : Int32) + l4_7) (if a3 < (σL4 102 ((273 : Int32) + l4_7).toNatClampNeg) then (gNm (l4_7 + 1 : Int32) (fun x12 => L4_X10_ownOf x2 a1 a2 a3 nL4 x12 l4_5 l4_4 σL4 kL4)) else (if (((σL4 101 7) >>> (l4_7 &&& 31)) &&& 1) = 1 then (gNm (l4_7 + 1 : Int32) (fun x53 => L4_X10_ownOf x2 a1 a2 a3 nL4 x53 l4_5 l4_4 σL4 kL4)) else (gIx 549 ((129 : Int32) + l4_7) (if (σL4 102 ((129 : Int32) + l4_7).toNatClampNeg) = 0 then (gIx 549 ((249 : Int32) + l4_7) (gNm ((σL4 102 ((249 : Int32) + l4_7).toNatClampNeg) : Int32) (fun x36 => gIx 549 ((249 : Int32) + l4_7) (gIx 549 ((225 : Int32) + l4_7) (gNm ((((σL4 102 ((249 : Int32) + l4_7).toNatClampNeg) - (σL4 102 ((225 : Int32) + l4_7).toNatClampNeg)) + 1) : Int32) (fun x40 => if a2 < x36 then (gNm (l4_7 + 1 : Int32) (fun x42 => L4_X10_ownOf x2 a1 a2 a3 nL4 x42 l4_5 l4_4 σL4 kL4)) else (if x36 < l4_5 then (gNm (l4_7 + 1 : Int32) (fun x44 => L4_X10_ownOf x2 a1 a2 a3 nL4 x44 l4_5 l4_4 σL4 kL4)) else (gBd (M_X10_hasLaw 1 x36 x40 σL4) (fun r47 σ46 => if r47 = 0 then (gNm (l4_7 + 1 : Int32) (fun x49 => L4_X10_ownOf x2 a1 a2 a3 nL4 x49 l4_5 l4_4 σ46 kL4)) else (gIx 549 ((177 : Int32) + l4_7) (gNm ((σ46 102 ((177 : Int32) + l4_7).toNatClampNeg) : Int32) (fun x51 => gNm (l4_7 + 1 : Int32) (fun x52 => L4_X10_ownOf x2 a1 a2 a3 nL4 x52 x36 x51 σ46 kL4))))))))))))) else (gIx 549 ((225 : Int32) + l4_7) (gNm ((σL4 102 ((225 : Int32) + l4_7).toNatClampNeg) : Int32) (fun x18 => gIx 549 ((201 : Int32) + l4_7) (gNm ((σL4 102 ((201 : Int32) + l4_7).toNatClampNeg) : Int32) (fun x21 => if a2 < x18 then (gNm (l4_7 + 1 : Int32) (fun x23 => L4_X10_ownOf x2 a1 a2 a3 nL4 x23 l4_5 l4_4 σL4 kL4)) else (if x18 < l4_5 then (gNm (l4_7 + 1 : Int32) (fun x25 => L4_X10_ownOf x2 a1 a2 a3 nL4 x25 l4_5 l4_4 σL4 kL4)) else (gBd (M_X10_hasLaw 2 x18 x21 σL4) (fun r28 σ27 => if r28 = 0 then (gNm (l4_7 + 1 : Int32) (fun x30 => L4_X10_ownOf x2 a1 a2 a3 nL4 x30 l4_5 l4_4 σ27 kL4)) else (gIx 549 ((177 : Int32) + l4_7) (gNm ((σ27 102 ((177 : Int32) + l4_7).toNatClampNeg) : Int32) (fun x32 => gNm (l4_7 + 1 : Int32) (fun x33 => L4_X10_ownOf x2 a1 a2 a3 nL4 x33 x18 x32 σ27 kL4))))))))))))))))) else (gNm (l4_7 + 1 : Int32) (fun x9 => L4_X10_ownOf x2 a1 a2 a3 nL4 x9 l4_5 l4_4 σL4 kL4)))))
def L61_X10_ownOf (x2 a1 a2 a3 : Int32) : Nat → Int32 → Int32 → Int32 → gSt → (Int32 → Int32 → Int32 → gSt → gO) → gO
  | 0, _, _, _, _, _ => none
  | nL61 + 1, l61_7, l61_5, l61_4, σL61, kL61 =>
    gIx 549 2 (if (σL61 102 (2 : Int32).toNatClampNeg) ≤ l61_7 then (kL61 l61_7 l61_5 l61_4 σL61) else (gIx 549 ((153 : Int32) + l61_7) (if (σL61 102 ((153 : Int32) + l61_7).toNatClampNeg) = a1 then (gIx 549 ((273 : Int32) + l61_7) (if a3 < (σL61 102 ((273 : Int32) + l61_7).toNatClampNeg) then (gNm (l61_7 + 1 : Int32) (fun x69 => L61_X10_ownOf x2 a1 a2 a3 nL61 x69 l61_5 l61_4 σL61 kL61)) else (if (((σL61 101 7) >>> (l61_7 &&& 31)) &&& 1) = 1 then (gNm (l61_7 + 1 : Int32) (fun x110 => L61_X10_ownOf x2 a1 a2 a3 nL61 x110 l61_5 l61_4 σL61 kL61)) else (gIx 549 ((129 : Int32) + l61_7) (if (σL61 102 ((129 : Int32) + l61_7).toNatClampNeg) = 0 then (gIx 549 ((249 : Int32) + l61_7) (gNm ((σL61 102 ((249 : Int32) + l61_7).toNatClampNeg) : Int32) (fun x93 => gIx 549 ((249 : Int32) + l61_7) (gIx 549 ((225 : Int32) + l61_7) (gNm ((((σL61 102 ((249 : Int32) + l61_7).toNatClampNeg) - (σL61 102 ((225 : Int32) + l61_7).toNatClampNeg)) + 1) : Int32) (fun x97 => if a2 < x93 then (gNm (l61_7 + 1 : Int32) (fun x99 => L61_X10_ownOf x2 a1 a2 a3 nL61 x99 l61_5 l61_4 σL61 kL61)) else (if x93 < l61_5 then (gNm (l61_7 + 1 : Int32) (fun x101 => L61_X10_ownOf x2 a1 a2 a3 nL61 x101 l61_5 l61_4 σL61 kL61)) else (gBd (M_X10_hasLaw 1 x93 x97 σL61) (fun r104 σ103 => if r104 = 0 then (gNm (l61_7 + 1 : Int32) (fun x106 => L61_X10_ownOf x2 a1 a2 a3 nL61 x106 l61_5 l61_4 σ103 kL61)) else (gIx 549 ((177 : Int32) + l61_7) (gNm ((σ103 102 ((177 : Int32) + l61_7).toNatClampNeg) : Int32) (fun x108 => gNm (l61_7 + 1 : Int32) (fun x109 => L61_X10_ownOf x2 a1 a2 a3 nL61 x109 x93 x108 σ103 kL61))))))))))))) else (gIx 549 ((225 : Int32) + l61_7) (gNm ((σL61 102 ((225 : Int32) + l61_7).toNatClampNeg) : Int32) (fun x75 => gIx 549 ((201 : Int32) + l61_7) (gNm ((σL61 102 ((201 : Int32) + l61_7).toNatClampNeg) : Int32) (fun x78 => if a2 < x75 then (gNm (l61_7 + 1 : Int32) (fun x80 => L61_X10_ownOf x2 a1 a2 a3 nL61 x80 l61_5 l61_4 σL61 kL61)) else (if x75 < l61_5 then (gNm (l61_7 + 1 : Int32) (fun x82 => L61_X10_ownOf x2 a1 a2 a3 nL61 x82 l61_5 l61_4 σL61 kL61)) else (gBd (M_X10_hasLaw 2 x75 x78 σL61) (fun r85 σ84 => if r85 = 0 then (gNm (l61_7 + 1 : Int32) (fun x87 => L61_X10_ownOf x2 a1 a2 a3 nL61 x87 l61_5 l61_4 σ84 kL61)) else (gIx 549 ((177 : Int32) + l61_7) (gNm ((σ84 102 ((177 : Int32) + l61_7).toNatClampNeg) : Int32) (fun x89 => gNm (l61_7 + 1 : Int32) (fun x90 => L61_X10_ownOf x2 a1 a2 a3 nL61 x90 x75 x89 σ84 kL61))))))))))))))))) else (gNm (l61_7 + 1 : Int32) (fun x66 => L61_X10_ownOf x2 a1 a2 a3 nL61 x66 l61_5 l61_4 σL61 kL61)))))
def L117_X10_ownOf (x2 a1 a2 a3 : Int32) : Nat → Int32 → Int32 → Int32 → gSt → (Int32 → Int32 → Int32 → gSt → gO) → gO
  | 0, _, _, _, _, _ => none
  | nL117 + 1, l117_7, l117_5, l117_4, σL117, kL117 =>
    gIx 549 2 (if (σL117 102 (2 : Int32).toNatClampNeg) ≤ l117_7 then (kL117 l117_7 l117_5 l117_4 σL117) else (gIx 549 ((153 : Int32) + l117_7) (if (σL117 102 ((153 : Int32) + l117_7).toNatClampNeg) = a1 then (gIx 549 ((273 : Int32) + l117_7) (if a3 < (σL117 102 ((273 : Int32) + l117_7).toNatClampNeg) then (gNm (l117_7 + 1 : Int32) (fun x125 => L117_X10_ownOf x2 a1 a2 a3 nL117 x125 l117_5 l117_4 σL117 kL117)) else (if (((σL117 101 7) >>> (l117_7 &&& 31)) &&& 1) = 1 then (gNm (l117_7 + 1 : Int32) (fun x166 => L117_X10_ownOf x2 a1 a2 a3 nL117 x166 l117_5 l117_4 σL117 kL117)) else (gIx 549 ((129 : Int32) + l117_7) (if (σL117 102 ((129 : Int32) + l117_7).toNatClampNeg) = 0 then (gIx 549 ((249 : Int32) + l117_7) (gNm ((σL117 102 ((249 : Int32) + l117_7).toNatClampNeg) : Int32) (fun x149 => gIx 549 ((249 : Int32) + l117_7) (gIx 549 ((225 : Int32) + l117_7) (gNm ((((σL117 102 ((249 : Int32) + l117_7).toNatClampNeg) - (σL117 102 ((225 : Int32) + l117_7).toNatClampNeg)) + 1) : Int32) (fun x153 => if a2 < x149 then (gNm (l117_7 + 1 : Int32) (fun x155 => L117_X10_ownOf x2 a1 a2 a3 nL117 x155 l117_5 l117_4 σL117 kL117)) else (if x149 < l117_5 then (gNm (l117_7 + 1 : Int32) (fun x157 => L117_X10_ownOf x2 a1 a2 a3 nL117 x157 l117_5 l117_4 σL117 kL117)) else (gBd (M_X10_hasLaw 1 x149 x153 σL117) (fun r160 σ159 => if r160 = 0 then (gNm (l117_7 + 1 : Int32) (fun x162 => L117_X10_ownOf x2 a1 a2 a3 nL117 x162 l117_5 l117_4 σ159 kL117)) else (gIx 549 ((177 : Int32) + l117_7) (gNm ((σ159 102 ((177 : Int32) + l117_7).toNatClampNeg) : Int32) (fun x164 => gNm (l117_7 + 1 : Int32) (fun x165 => L117_X10_ownOf x2 a1 a2 a3 nL117 x165 x149 x164 σ159 kL117))))))))))))) else (gIx 549 ((225 : Int32) + l117_7) (gNm ((σL117 102 ((225 : Int32) + l117_7).toNatClampNeg) : Int32) (fun x131 => gIx 549 ((201 : Int32) + l117_7) (gNm ((σL117 102 ((201 : Int32) + l117_7).toNatClampNeg) : Int32) (fun x134 => if a2 < x131 then (gNm (l117_7 + 1 : Int32) (fun x136 => L117_X10_ownOf x2 a1 a2 a3 nL117 x136 l117_5 l117_4 σL117 kL117)) else (if x131 < l117_5 then (gNm (l117_7 + 1 : Int32) (fun x138 => L117_X10_ownOf x2 a1 a2 a3 nL117 x138 l117_5 l117_4 σL117 kL117)) else (gBd (M_X10_hasLaw 2 x131 x134 σL117) (fun r141 σ140 => if r141 = 0 then (gNm (l117_7 + 1 : Int32) (fun x143 => L117_X10_ownOf x2 a1 a2 a3 nL117 x143 l117_5 l117_4 σ140 kL117)) else (gIx 549 ((177 : Int32) + l117_7) (gNm ((σ140 102 ((177 : Int32) + l117_7).toNatClampNeg) : Int32) (fun x145 => gNm (l117_7 + 1 : Int32) (fun x146 => L117_X10_ownOf x2 a1 a2 a3 nL117 x146 x131 x145 σ140 kL117))))))))))))))))) else (gNm (l117_7 + 1 : Int32) (fun x122 => L117_X10_ownOf x2 a1 a2 a3 nL117 x122 l117_5 l117_4 σL117 kL117)))))
def M_X10_ownOf (a1 a2 a3 : Int32) (σ : gSt) : gO :=
  gIx 549 ((69 : Int32) + a1) (gNm ((σ 102 ((69 : Int32) + a1).toNatClampNeg) : Int32) (fun x2 => if a2 < x2 then (L4_X10_ownOf x2 a1 a2 a3 gFu 0 (-1) (-1) σ (fun z54 z55 z56 σ57 => some (z56, σ57))) else (gBd (M_X10_hasLaw 0 x2 0 σ) (fun r59 σ58 => if r59 = 0 then (L61_X10_ownOf x2 a1 a2 a3 gFu 0 (-1) (-1) σ58 (fun z111 z112 z113 σ114 => some (z113, σ114))) else (gIx 549 ((59 : Int32) + a1) (gNm ((σ58 102 ((59 : Int32) + a1).toNatClampNeg) : Int32) (fun x116 => L117_X10_ownOf x2 a1 a2 a3 gFu 0 x2 x116 σ58 (fun z167 z168 z169 σ170 => some (z169, σ170)))))))))
set_option maxHeartbeats 4000000 in
set_option maxRecDepth 100000 in
theorem c_X10_ownOf (l : Launch) (G : gPar) (a1 a2 a3 : Int32) (σ : gSt) {r : Int32} {σ' : gSt} (h : M_X10_ownOf a1 a2 a3 σ = some (r, σ')) : gC l G yX10_ownOf cX10_ownOf 11 (some .int) 2 48 [.ref (G.2.2.1 101), .int a1, .int a2, .int a3] σ r σ' := by
  refine gC_of (by decide) (Nat.le_of_ble_eq_true rfl) ?_
  intro p e s m below meth c hx hb hr ht hown hlk hml hE hP ls hl
  have hS : va_S (gA G) s.heap s.heap [] := va_S.rf
  have hl : lv_has ls 11 [(0, .ref (G.2.2.1 101)), (1, .int a1), (2, .int a2), (3, .int a3)] := hl
  unfold M_X10_ownOf at h
  refine lv_iconst (v := (-1)) hx hb dX10_ownOf_0 (by decide) ?_
  refine lv_istore (lv' := [(4, .int (-1)), (0, .ref (G.2.2.1 101)), (1, .int a1), (2, .int a2), (3, .int a3)]) hx hb dX10_ownOf_1 hl (by decide) rfl (fun ls hl => ?_)
  refine lv_iconst (v := (-1)) hx hb dX10_ownOf_3 (by decide) ?_
  refine lv_istore (lv' := [(5, .int (-1)), (4, .int (-1)), (0, .ref (G.2.2.1 101)), (1, .int a1), (2, .int a2), (3, .int a3)]) hx hb dX10_ownOf_4 hl (by decide) rfl (fun ls hl => ?_)
  refine lv_aload_n hx hb dX10_ownOf_6 rfl (lv_at hl 2 rfl) ?_
  refine g_get hx hb ht hown hE hP (by decide) gE_101 uX10 rfl 0 (by decide) m_790 rfl rfl dX10_ownOf_7 ?_
  refine lv_bipush (v := 69) hx hb dX10_ownOf_10 (by decide) ?_
  refine lv_iload_n hx hb dX10_ownOf_12 rfl (lv_at hl 3 rfl) ?_
  refine lv_iadd hx hb dX10_ownOf_13 ?_
  obtain ⟨i1, h⟩ := g_ix h
  refine g_iald hx hb hE hP (by decide) rfl (by decide) i1 dX10_ownOf_14 ?_
  refine lv_topi (fun x2 ex2 => ?_)
  have h := g_nm ex2 h
  refine lv_istore (lv' := [(6, .int x2), (5, .int (-1)), (4, .int (-1)), (0, .ref (G.2.2.1 101)), (1, .int a1), (2, .int a2), (3, .int a3)]) hx hb dX10_ownOf_15 hl (by decide) rfl (fun ls hl => ?_)
  refine lv_iload hx hb dX10_ownOf_17 (lv_at hl 0 rfl) ?_
  refine lv_iload_n hx hb dX10_ownOf_19 rfl (lv_at hl 5 rfl) ?_
  refine lv_icmp_gt (tgt := 49) hx hb dX10_ownOf_20 (by decide) (fun c3 => ?_) (fun c3 => ?_)
  · have h := g_ift c3 h
    refine lv_iconst (v := 0) hx hb dX10_ownOf_49 (by decide) ?_
    refine lv_istore (lv' := [(7, .int 0), (6, .int x2), (5, .int (-1)), (4, .int (-1)), (0, .ref (G.2.2.1 101)), (1, .int a1), (2, .int a2), (3, .int a3)]) hx hb dX10_ownOf_50 hl (by decide) rfl (fun ls hl => ?_)
    have LPL4 : ∀ (kL4 : Int32 → Int32 → Int32 → gSt → gO), (∀ (l4_7 l4_5 l4_4 : Int32) (σL4 : gSt) (H : Heap) (locs : List Loc) (ls : Array Slot), kL4 l4_7 l4_5 l4_4 σL4 = some (r, σ') → gW G σL4 H → va_S (gA G) s.heap H locs → lv_has ls 11 [(7, .int l4_7), (6, .int x2), (5, .int l4_5), (4, .int l4_4), (0, .ref (G.2.2.1 101)), (1, .int a1), (2, .int a2), (3, .int a3)] → W p l e (gRm 2 48) s m ([.ref (G.2.2.1 101), .int a1, .int a2, .int a3].toArray) below meth c H locs 0 0 (MQ below (gQ G r σ') ([.ref (G.2.2.1 101), .int a1, .int a2, .int a3].toArray) s 0 0 (gA G)) (F0 m 265 ls [])) → ∀ (nL4 : Nat) (l4_7 l4_5 l4_4 : Int32) (σL4 : gSt) (H : Heap) (locs : List Loc) (ls : Array Slot), L4_X10_ownOf x2 a1 a2 a3 nL4 l4_7 l4_5 l4_4 σL4 kL4 = some (r, σ') → gW G σL4 H → va_S (gA G) s.heap H locs → lv_has ls 11 [(7, .int l4_7), (6, .int x2), (5, .int l4_5), (4, .int l4_4), (0, .ref (G.2.2.1 101)), (1, .int a1), (2, .int a2), (3, .int a3)] → W p l e (gRm 2 48) s m ([.ref (G.2.2.1 101), .int a1, .int a2, .int a3].toArray) below meth c H locs 0 0 (MQ below (gQ G r σ') ([.ref (G.2.2.1 101), .int a1, .int a2, .int a3].toArray) s 0 0 (gA G)) (F0 m 52 ls []) := by
      intro kL4 hKL4 nL4
      induction nL4 with
      | zero =>
        intro l4_7 l4_5 l4_4 σL4 H locs ls h
        cases h
      | succ nL4 ihL4 =>
        intro l4_7 l4_5 l4_4 σL4 H locs ls h hP hS hl
        rw [L4_X10_ownOf] at h
        refine lv_iload hx hb dX10_ownOf_52 (lv_at hl 0 rfl) ?_
        refine lv_aload_n hx hb dX10_ownOf_54 rfl (lv_at hl 4 rfl) ?_
        refine g_get hx hb ht hown hE hP (by decide) gE_101 uX10 rfl 0 (by decide) m_790 rfl rfl dX10_ownOf_55 ?_
        refine lv_iconst (v := 2) hx hb dX10_ownOf_58 (by decide) ?_
        obtain ⟨i5, h⟩ := g_ix h
        refine g_iald hx hb hE hP (by decide) rfl (by decide) i5 dX10_ownOf_59 ?_
        refine lv_icmp_ge (tgt := 265) hx hb dX10_ownOf_60 (by decide) (fun c6 => ?_) (fun c6 => ?_)
        · have h := g_ift c6 h
          exact hKL4 _ _ _ _ _ _ _ h hP hS (lv_sub hl [0, 1, 2, 3, 4, 5, 6, 7] rfl)
        · have h := g_iff c6 h
          refine lv_aload_n hx hb dX10_ownOf_63 rfl (lv_at hl 4 rfl) ?_
          refine g_get hx hb ht hown hE hP (by decide) gE_101 uX10 rfl 0 (by decide) m_790 rfl rfl dX10_ownOf_64 ?_
          refine lv_sipush (v := 153) hx hb dX10_ownOf_67 (by decide) ?_
          refine lv_iload hx hb dX10_ownOf_70 (lv_at hl 0 rfl) ?_
          refine lv_iadd hx hb dX10_ownOf_72 ?_
          obtain ⟨i7, h⟩ := g_ix h
          refine g_iald hx hb hE hP (by decide) rfl (by decide) i7 dX10_ownOf_73 ?_
          refine lv_iload_n hx hb dX10_ownOf_74 rfl (lv_at hl 5 rfl) ?_
          refine lv_icmp_ne (tgt := 259) hx hb dX10_ownOf_75 (by decide) (fun c8 => ?_) (fun c8 => ?_)
          · have h := g_iff c8 h
            obtain ⟨x9, ex9⟩ : ∃ y : Int32, y = l4_7 + 1 := ⟨_, rfl⟩
            have h := g_nm ex9 h
            refine lv_iinc (v := x9) (lv' := [(7, .int x9), (6, .int x2), (5, .int l4_5), (4, .int l4_4), (0, .ref (G.2.2.1 101)), (1, .int a1), (2, .int a2), (3, .int a3)]) hx hb dX10_ownOf_259 hl (k := 0) rfl (by rw [ex9]; rfl) (by decide) rfl (fun ls hl => ?_)
            refine lv_goto (tgt := 52) hx hb dX10_ownOf_262 (by decide) ?_
            exact ihL4 _ _ _ _ _ _ _ h hP hS (lv_sub hl [0, 1, 2, 3, 4, 5, 6, 7] rfl)
          · have h := g_ift c8 h
            refine lv_aload_n hx hb dX10_ownOf_78 rfl (lv_at hl 4 rfl) ?_
            refine g_get hx hb ht hown hE hP (by decide) gE_101 uX10 rfl 0 (by decide) m_790 rfl rfl dX10_ownOf_79 ?_
            refine lv_sipush (v := 273) hx hb dX10_ownOf_82 (by decide) ?_
            refine lv_iload hx hb dX10_ownOf_85 (lv_at hl 0 rfl) ?_
            refine lv_iadd hx hb dX10_ownOf_87 ?_
            obtain ⟨i10, h⟩ := g_ix h
            refine g_iald hx hb hE hP (by decide) rfl (by decide) i10 dX10_ownOf_88 ?_
            refine lv_iload_n hx hb dX10_ownOf_89 rfl (lv_at hl 7 rfl) ?_
            refine lv_icmp_gt (tgt := 259) hx hb dX10_ownOf_90 (by decide) (fun c11 => ?_) (fun c11 => ?_)
            · have h := g_ift c11 h
              obtain ⟨x12, ex12⟩ : ∃ y : Int32, y = l4_7 + 1 := ⟨_, rfl⟩
              have h := g_nm ex12 h
              refine lv_iinc (v := x12) (lv' := [(7, .int x12), (6, .int x2), (5, .int l4_5), (4, .int l4_4), (0, .ref (G.2.2.1 101)), (1, .int a1), (2, .int a2), (3, .int a3)]) hx hb dX10_ownOf_259 hl (k := 0) rfl (by rw [ex12]; rfl) (by decide) rfl (fun ls hl => ?_)
              refine lv_goto (tgt := 52) hx hb dX10_ownOf_262 (by decide) ?_
              exact ihL4 _ _ _ _ _ _ _ h hP hS (lv_sub hl [0, 1, 2, 3, 4, 5, 6, 7] rfl)
            · have h := g_iff c11 h
              refine lv_aload_n hx hb dX10_ownOf_93 rfl (lv_at hl 4 rfl) ?_
              refine g_get hx hb ht hown hE hP (by decide) gE_101 uX10 rfl 7 (by decide) m_797 rfl rfl dX10_ownOf_94 ?_
              refine lv_iload hx hb dX10_ownOf_97 (lv_at hl 0 rfl) ?_
              refine lv_ishr hx hb dX10_ownOf_99 ?_
              refine lv_iconst (v := 1) hx hb dX10_ownOf_100 (by decide) ?_
              refine lv_iand hx hb dX10_ownOf_101 ?_
              refine lv_iconst (v := 1) hx hb dX10_ownOf_102 (by decide) ?_
              refine lv_icmp_ne (tgt := 109) hx hb dX10_ownOf_103 (by decide) (fun c13 => ?_) (fun c13 => ?_)
              · have h := g_iff c13 h
                refine lv_aload_n hx hb dX10_ownOf_109 rfl (lv_at hl 4 rfl) ?_
                refine g_get hx hb ht hown hE hP (by decide) gE_101 uX10 rfl 0 (by decide) m_790 rfl rfl dX10_ownOf_110 ?_
                refine lv_sipush (v := 129) hx hb dX10_ownOf_113 (by decide) ?_
                refine lv_iload hx hb dX10_ownOf_116 (lv_at hl 0 rfl) ?_
                refine lv_iadd hx hb dX10_ownOf_118 ?_
                obtain ⟨i14, h⟩ := g_ix h
                refine g_iald hx hb hE hP (by decide) rfl (by decide) i14 dX10_ownOf_119 ?_
                refine lv_if_ne (tgt := 127) hx hb dX10_ownOf_120 (by decide) (fun c15 => ?_) (fun c15 => ?_)
                · have h := g_iff c15 h
                  refine lv_iconst (v := 0) hx hb dX10_ownOf_127 (by decide) ?_
                  refine lv_istore (lv' := [(8, .int 0), (7, .int l4_7), (6, .int x2), (5, .int l4_5), (4, .int l4_4), (0, .ref (G.2.2.1 101)), (1, .int a1), (2, .int a2), (3, .int a3)]) hx hb dX10_ownOf_128 hl (by decide) rfl (fun ls hl => ?_)
                  refine lv_iload hx hb dX10_ownOf_130 (lv_at hl 0 rfl) ?_
                  refine lv_if_eq (tgt := 149) hx hb dX10_ownOf_132 (by decide) (fun _ => ?_) (fun c16 => absurd (by decide) c16)
                  refine lv_aload_n hx hb dX10_ownOf_149 rfl (lv_at hl 5 rfl) ?_
                  refine g_get hx hb ht hown hE hP (by decide) gE_101 uX10 rfl 0 (by decide) m_790 rfl rfl dX10_ownOf_150 ?_
                  refine lv_sipush (v := 225) hx hb dX10_ownOf_153 (by decide) ?_
                  refine lv_iload hx hb dX10_ownOf_156 (lv_at hl 1 rfl) ?_
                  refine lv_iadd hx hb dX10_ownOf_158 ?_
                  obtain ⟨i17, h⟩ := g_ix h
                  refine g_iald hx hb hE hP (by decide) rfl (by decide) i17 dX10_ownOf_159 ?_
                  refine lv_topi (fun x18 ex18 => ?_)
                  have h := g_nm ex18 h
                  refine lv_istore (lv' := [(9, .int x18), (8, .int 0), (7, .int l4_7), (6, .int x2), (5, .int l4_5), (4, .int l4_4), (0, .ref (G.2.2.1 101)), (1, .int a1), (2, .int a2), (3, .int a3)]) hx hb dX10_ownOf_160 hl (by decide) rfl (fun ls hl => ?_)
                  refine lv_iload hx hb dX10_ownOf_162 (lv_at hl 1 rfl) ?_
                  refine lv_if_eq (tgt := 195) hx hb dX10_ownOf_164 (by decide) (fun _ => ?_) (fun c19 => absurd (by decide) c19)
                  refine lv_aload_n hx hb dX10_ownOf_195 rfl (lv_at hl 6 rfl) ?_
                  refine g_get hx hb ht hown hE hP (by decide) gE_101 uX10 rfl 0 (by decide) m_790 rfl rfl dX10_ownOf_196 ?_
                  refine lv_sipush (v := 201) hx hb dX10_ownOf_199 (by decide) ?_
                  refine lv_iload hx hb dX10_ownOf_202 (lv_at hl 2 rfl) ?_
                  refine lv_iadd hx hb dX10_ownOf_204 ?_
                  obtain ⟨i20, h⟩ := g_ix h
                  refine g_iald hx hb hE hP (by decide) rfl (by decide) i20 dX10_ownOf_205 ?_
                  refine lv_topi (fun x21 ex21 => ?_)
                  have h := g_nm ex21 h
                  refine lv_istore (lv' := [(10, .int x21), (9, .int x18), (8, .int 0), (7, .int l4_7), (6, .int x2), (5, .int l4_5), (4, .int l4_4), (0, .ref (G.2.2.1 101)), (1, .int a1), (2, .int a2), (3, .int a3)]) hx hb dX10_ownOf_206 hl (by decide) rfl (fun ls hl => ?_)
                  refine lv_iload hx hb dX10_ownOf_208 (lv_at hl 1 rfl) ?_
                  refine lv_iload_n hx hb dX10_ownOf_210 rfl (lv_at hl 9 rfl) ?_
                  refine lv_icmp_gt (tgt := 259) hx hb dX10_ownOf_211 (by decide) (fun c22 => ?_) (fun c22 => ?_)
                  · have h := g_ift c22 h
                    obtain ⟨x23, ex23⟩ : ∃ y : Int32, y = l4_7 + 1 := ⟨_, rfl⟩
                    have h := g_nm ex23 h
                    refine lv_iinc (v := x23) (lv' := [(7, .int x23), (10, .int x21), (9, .int x18), (8, .int 0), (6, .int x2), (5, .int l4_5), (4, .int l4_4), (0, .ref (G.2.2.1 101)), (1, .int a1), (2, .int a2), (3, .int a3)]) hx hb dX10_ownOf_259 hl (k := 3) rfl (by rw [ex23]; rfl) (by decide) rfl (fun ls hl => ?_)
                    refine lv_goto (tgt := 52) hx hb dX10_ownOf_262 (by decide) ?_
                    exact ihL4 _ _ _ _ _ _ _ h hP hS (lv_sub hl [0, 4, 5, 6, 7, 8, 9, 10] rfl)
                  · have h := g_iff c22 h
                    refine lv_iload hx hb dX10_ownOf_214 (lv_at hl 1 rfl) ?_
                    refine lv_iload hx hb dX10_ownOf_216 (lv_at hl 5 rfl) ?_
                    refine lv_icmp_lt (tgt := 259) hx hb dX10_ownOf_218 (by decide) (fun c24 => ?_) (fun c24 => ?_)
                    · have h := g_ift c24 h
                      obtain ⟨x25, ex25⟩ : ∃ y : Int32, y = l4_7 + 1 := ⟨_, rfl⟩
                      have h := g_nm ex25 h
                      refine lv_iinc (v := x25) (lv' := [(7, .int x25), (10, .int x21), (9, .int x18), (8, .int 0), (6, .int x2), (5, .int l4_5), (4, .int l4_4), (0, .ref (G.2.2.1 101)), (1, .int a1), (2, .int a2), (3, .int a3)]) hx hb dX10_ownOf_259 hl (k := 3) rfl (by rw [ex25]; rfl) (by decide) rfl (fun ls hl => ?_)
                      refine lv_goto (tgt := 52) hx hb dX10_ownOf_262 (by decide) ?_
                      exact ihL4 _ _ _ _ _ _ _ h hP hS (lv_sub hl [0, 4, 5, 6, 7, 8, 9, 10] rfl)
                    · have h := g_iff c24 h
                      refine lv_aload_n hx hb dX10_ownOf_221 rfl (lv_at hl 7 rfl) ?_
                      refine lv_iload hx hb dX10_ownOf_222 (lv_at hl 2 rfl) ?_
                      refine lv_if_eq (tgt := 231) hx hb dX10_ownOf_224 (by decide) (fun _ => ?_) (fun c26 => absurd (by decide) c26)
                      refine lv_iconst (v := 2) hx hb dX10_ownOf_231 (by decide) ?_
                      refine lv_iload hx hb dX10_ownOf_232 (lv_at hl 1 rfl) ?_
                      refine lv_iload hx hb dX10_ownOf_234 (lv_at hl 0 rfl) ?_
                      obtain ⟨r28, σ27, hcr28, h⟩ := g_bd h
                      refine g_callV (As := [.int 2, .int x18, .int x21]) (n := 3) hx hb hml hown ht (c_X10_hasLaw l G _ _ _ _ hcr28) m_918 m_920 m_21 m_41 m_921 (by decide +kernel) (by decide) gE_101 rfl hE hP hS (fun _ h => h) (fun _ _ h => h) rfl hl.1 rfl (Nat.le_of_ble_eq_true rfl) dX10_ownOf_236 ⟨by decide, by decide⟩ ⟨Nat.zero_le _, Nat.zero_le _⟩ (fun H locs hP hS => ?_)
                      refine lv_if_eq (tgt := 259) hx hb dX10_ownOf_239 (by decide) (fun c29 => ?_) (fun c29 => ?_)
                      · have h := g_ift c29 h
                        obtain ⟨x30, ex30⟩ : ∃ y : Int32, y = l4_7 + 1 := ⟨_, rfl⟩
                        have h := g_nm ex30 h
                        refine lv_iinc (v := x30) (lv' := [(7, .int x30), (10, .int x21), (9, .int x18), (8, .int 0), (6, .int x2), (5, .int l4_5), (4, .int l4_4), (0, .ref (G.2.2.1 101)), (1, .int a1), (2, .int a2), (3, .int a3)]) hx hb dX10_ownOf_259 hl (k := 3) rfl (by rw [ex30]; rfl) (by decide) rfl (fun ls hl => ?_)
                        refine lv_goto (tgt := 52) hx hb dX10_ownOf_262 (by decide) ?_
                        exact ihL4 _ _ _ _ _ _ _ h hP hS (lv_sub hl [0, 4, 5, 6, 7, 8, 9, 10] rfl)
                      · have h := g_iff c29 h
                        refine lv_aload_n hx hb dX10_ownOf_242 rfl (lv_at hl 7 rfl) ?_
                        refine g_get hx hb ht hown hE hP (by decide) gE_101 uX10 rfl 0 (by decide) m_790 rfl rfl dX10_ownOf_243 ?_
                        refine lv_sipush (v := 177) hx hb dX10_ownOf_246 (by decide) ?_
                        refine lv_iload hx hb dX10_ownOf_249 (lv_at hl 3 rfl) ?_
                        refine lv_iadd hx hb dX10_ownOf_251 ?_
                        obtain ⟨i31, h⟩ := g_ix h
                        refine g_iald hx hb hE hP (by decide) rfl (by decide) i31 dX10_ownOf_252 ?_
                        refine lv_topi (fun x32 ex32 => ?_)
                        have h := g_nm ex32 h
                        refine lv_istore (lv' := [(4, .int x32), (10, .int x21), (9, .int x18), (8, .int 0), (7, .int l4_7), (6, .int x2), (5, .int l4_5), (0, .ref (G.2.2.1 101)), (1, .int a1), (2, .int a2), (3, .int a3)]) hx hb dX10_ownOf_253 hl (by decide) rfl (fun ls hl => ?_)
                        refine lv_iload hx hb dX10_ownOf_255 (lv_at hl 2 rfl) ?_
                        refine lv_istore (lv' := [(5, .int x18), (4, .int x32), (10, .int x21), (9, .int x18), (8, .int 0), (7, .int l4_7), (6, .int x2), (0, .ref (G.2.2.1 101)), (1, .int a1), (2, .int a2), (3, .int a3)]) hx hb dX10_ownOf_257 hl (by decide) rfl (fun ls hl => ?_)
                        obtain ⟨x33, ex33⟩ : ∃ y : Int32, y = l4_7 + 1 := ⟨_, rfl⟩
                        have h := g_nm ex33 h
                        refine lv_iinc (v := x33) (lv' := [(7, .int x33), (5, .int x18), (4, .int x32), (10, .int x21), (9, .int x18), (8, .int 0), (6, .int x2), (0, .ref (G.2.2.1 101)), (1, .int a1), (2, .int a2), (3, .int a3)]) hx hb dX10_ownOf_259 hl (k := 5) rfl (by rw [ex33]; rfl) (by decide) rfl (fun ls hl => ?_)
                        refine lv_goto (tgt := 52) hx hb dX10_ownOf_262 (by decide) ?_
                        exact ihL4 _ _ _ _ _ _ _ h hP hS (lv_sub hl [0, 6, 1, 2, 7, 8, 9, 10] rfl)
                · have h := g_ift c15 h
                  refine lv_iconst (v := 1) hx hb dX10_ownOf_123 (by decide) ?_
                  refine lv_goto (tgt := 128) hx hb dX10_ownOf_124 (by decide) ?_
                  refine lv_istore (lv' := [(8, .int 1), (7, .int l4_7), (6, .int x2), (5, .int l4_5), (4, .int l4_4), (0, .ref (G.2.2.1 101)), (1, .int a1), (2, .int a2), (3, .int a3)]) hx hb dX10_ownOf_128 hl (by decide) rfl (fun ls hl => ?_)
                  refine lv_iload hx hb dX10_ownOf_130 (lv_at hl 0 rfl) ?_
                  refine lv_if_eq (tgt := 149) hx hb dX10_ownOf_132 (by decide) (fun c34 => absurd c34 (by decide)) (fun _ => ?_)
                  refine lv_aload_n hx hb dX10_ownOf_135 rfl (lv_at hl 5 rfl) ?_
                  refine g_get hx hb ht hown hE hP (by decide) gE_101 uX10 rfl 0 (by decide) m_790 rfl rfl dX10_ownOf_136 ?_
                  refine lv_sipush (v := 249) hx hb dX10_ownOf_139 (by decide) ?_
                  refine lv_iload hx hb dX10_ownOf_142 (lv_at hl 1 rfl) ?_
                  refine lv_iadd hx hb dX10_ownOf_144 ?_
                  obtain ⟨i35, h⟩ := g_ix h
                  refine g_iald hx hb hE hP (by decide) rfl (by decide) i35 dX10_ownOf_145 ?_
                  refine lv_goto (tgt := 160) hx hb dX10_ownOf_146 (by decide) ?_
                  refine lv_topi (fun x36 ex36 => ?_)
                  have h := g_nm ex36 h
                  refine lv_istore (lv' := [(9, .int x36), (8, .int 1), (7, .int l4_7), (6, .int x2), (5, .int l4_5), (4, .int l4_4), (0, .ref (G.2.2.1 101)), (1, .int a1), (2, .int a2), (3, .int a3)]) hx hb dX10_ownOf_160 hl (by decide) rfl (fun ls hl => ?_)
                  refine lv_iload hx hb dX10_ownOf_162 (lv_at hl 1 rfl) ?_
                  refine lv_if_eq (tgt := 195) hx hb dX10_ownOf_164 (by decide) (fun c37 => absurd c37 (by decide)) (fun _ => ?_)
                  refine lv_aload_n hx hb dX10_ownOf_167 rfl (lv_at hl 6 rfl) ?_
                  refine g_get hx hb ht hown hE hP (by decide) gE_101 uX10 rfl 0 (by decide) m_790 rfl rfl dX10_ownOf_168 ?_
                  refine lv_sipush (v := 249) hx hb dX10_ownOf_171 (by decide) ?_
                  refine lv_iload hx hb dX10_ownOf_174 (lv_at hl 2 rfl) ?_
                  refine lv_iadd hx hb dX10_ownOf_176 ?_
                  obtain ⟨i38, h⟩ := g_ix h
                  refine g_iald hx hb hE hP (by decide) rfl (by decide) i38 dX10_ownOf_177 ?_
                  refine lv_aload_n hx hb dX10_ownOf_178 rfl (lv_at hl 6 rfl) ?_
                  refine g_get hx hb ht hown hE hP (by decide) gE_101 uX10 rfl 0 (by decide) m_790 rfl rfl dX10_ownOf_179 ?_
                  refine lv_sipush (v := 225) hx hb dX10_ownOf_182 (by decide) ?_
                  refine lv_iload hx hb dX10_ownOf_185 (lv_at hl 2 rfl) ?_
                  refine lv_iadd hx hb dX10_ownOf_187 ?_
                  obtain ⟨i39, h⟩ := g_ix h
                  refine g_iald hx hb hE hP (by decide) rfl (by decide) i39 dX10_ownOf_188 ?_
                  refine lv_isub hx hb dX10_ownOf_189 ?_
                  refine lv_iconst (v := 1) hx hb dX10_ownOf_190 (by decide) ?_
                  refine lv_iadd hx hb dX10_ownOf_191 ?_
                  refine lv_goto (tgt := 206) hx hb dX10_ownOf_192 (by decide) ?_
                  refine lv_topi (fun x40 ex40 => ?_)
                  have h := g_nm ex40 h
                  refine lv_istore (lv' := [(10, .int x40), (9, .int x36), (8, .int 1), (7, .int l4_7), (6, .int x2), (5, .int l4_5), (4, .int l4_4), (0, .ref (G.2.2.1 101)), (1, .int a1), (2, .int a2), (3, .int a3)]) hx hb dX10_ownOf_206 hl (by decide) rfl (fun ls hl => ?_)
                  refine lv_iload hx hb dX10_ownOf_208 (lv_at hl 1 rfl) ?_
                  refine lv_iload_n hx hb dX10_ownOf_210 rfl (lv_at hl 9 rfl) ?_
                  refine lv_icmp_gt (tgt := 259) hx hb dX10_ownOf_211 (by decide) (fun c41 => ?_) (fun c41 => ?_)
                  · have h := g_ift c41 h
                    obtain ⟨x42, ex42⟩ : ∃ y : Int32, y = l4_7 + 1 := ⟨_, rfl⟩
                    have h := g_nm ex42 h
                    refine lv_iinc (v := x42) (lv' := [(7, .int x42), (10, .int x40), (9, .int x36), (8, .int 1), (6, .int x2), (5, .int l4_5), (4, .int l4_4), (0, .ref (G.2.2.1 101)), (1, .int a1), (2, .int a2), (3, .int a3)]) hx hb dX10_ownOf_259 hl (k := 3) rfl (by rw [ex42]; rfl) (by decide) rfl (fun ls hl => ?_)
                    refine lv_goto (tgt := 52) hx hb dX10_ownOf_262 (by decide) ?_
                    exact ihL4 _ _ _ _ _ _ _ h hP hS (lv_sub hl [0, 4, 5, 6, 7, 8, 9, 10] rfl)
                  · have h := g_iff c41 h
                    refine lv_iload hx hb dX10_ownOf_214 (lv_at hl 1 rfl) ?_
                    refine lv_iload hx hb dX10_ownOf_216 (lv_at hl 5 rfl) ?_
                    refine lv_icmp_lt (tgt := 259) hx hb dX10_ownOf_218 (by decide) (fun c43 => ?_) (fun c43 => ?_)
                    · have h := g_ift c43 h
                      obtain ⟨x44, ex44⟩ : ∃ y : Int32, y = l4_7 + 1 := ⟨_, rfl⟩
                      have h := g_nm ex44 h
                      refine lv_iinc (v := x44) (lv' := [(7, .int x44), (10, .int x40), (9, .int x36), (8, .int 1), (6, .int x2), (5, .int l4_5), (4, .int l4_4), (0, .ref (G.2.2.1 101)), (1, .int a1), (2, .int a2), (3, .int a3)]) hx hb dX10_ownOf_259 hl (k := 3) rfl (by rw [ex44]; rfl) (by decide) rfl (fun ls hl => ?_)
                      refine lv_goto (tgt := 52) hx hb dX10_ownOf_262 (by decide) ?_
                      exact ihL4 _ _ _ _ _ _ _ h hP hS (lv_sub hl [0, 4, 5, 6, 7, 8, 9, 10] rfl)
                    · have h := g_iff c43 h
                      refine lv_aload_n hx hb dX10_ownOf_221 rfl (lv_at hl 7 rfl) ?_
                      refine lv_iload hx hb dX10_ownOf_222 (lv_at hl 2 rfl) ?_
                      refine lv_if_eq (tgt := 231) hx hb dX10_ownOf_224 (by decide) (fun c45 => absurd c45 (by decide)) (fun _ => ?_)
                      refine lv_iconst (v := 1) hx hb dX10_ownOf_227 (by decide) ?_
                      refine lv_goto (tgt := 232) hx hb dX10_ownOf_228 (by decide) ?_
                      refine lv_iload hx hb dX10_ownOf_232 (lv_at hl 1 rfl) ?_
                      refine lv_iload hx hb dX10_ownOf_234 (lv_at hl 0 rfl) ?_
                      obtain ⟨r47, σ46, hcr47, h⟩ := g_bd h
                      refine g_callV (As := [.int 1, .int x36, .int x40]) (n := 3) hx hb hml hown ht (c_X10_hasLaw l G _ _ _ _ hcr47) m_918 m_920 m_21 m_41 m_921 (by decide +kernel) (by decide) gE_101 rfl hE hP hS (fun _ h => h) (fun _ _ h => h) rfl hl.1 rfl (Nat.le_of_ble_eq_true rfl) dX10_ownOf_236 ⟨by decide, by decide⟩ ⟨Nat.zero_le _, Nat.zero_le _⟩ (fun H locs hP hS => ?_)
                      refine lv_if_eq (tgt := 259) hx hb dX10_ownOf_239 (by decide) (fun c48 => ?_) (fun c48 => ?_)
                      · have h := g_ift c48 h
                        obtain ⟨x49, ex49⟩ : ∃ y : Int32, y = l4_7 + 1 := ⟨_, rfl⟩
                        have h := g_nm ex49 h
                        refine lv_iinc (v := x49) (lv' := [(7, .int x49), (10, .int x40), (9, .int x36), (8, .int 1), (6, .int x2), (5, .int l4_5), (4, .int l4_4), (0, .ref (G.2.2.1 101)), (1, .int a1), (2, .int a2), (3, .int a3)]) hx hb dX10_ownOf_259 hl (k := 3) rfl (by rw [ex49]; rfl) (by decide) rfl (fun ls hl => ?_)
                        refine lv_goto (tgt := 52) hx hb dX10_ownOf_262 (by decide) ?_
                        exact ihL4 _ _ _ _ _ _ _ h hP hS (lv_sub hl [0, 4, 5, 6, 7, 8, 9, 10] rfl)
                      · have h := g_iff c48 h
                        refine lv_aload_n hx hb dX10_ownOf_242 rfl (lv_at hl 7 rfl) ?_
                        refine g_get hx hb ht hown hE hP (by decide) gE_101 uX10 rfl 0 (by decide) m_790 rfl rfl dX10_ownOf_243 ?_
                        refine lv_sipush (v := 177) hx hb dX10_ownOf_246 (by decide) ?_
                        refine lv_iload hx hb dX10_ownOf_249 (lv_at hl 3 rfl) ?_
                        refine lv_iadd hx hb dX10_ownOf_251 ?_
                        obtain ⟨i50, h⟩ := g_ix h
                        refine g_iald hx hb hE hP (by decide) rfl (by decide) i50 dX10_ownOf_252 ?_
                        refine lv_topi (fun x51 ex51 => ?_)
                        have h := g_nm ex51 h
                        refine lv_istore (lv' := [(4, .int x51), (10, .int x40), (9, .int x36), (8, .int 1), (7, .int l4_7), (6, .int x2), (5, .int l4_5), (0, .ref (G.2.2.1 101)), (1, .int a1), (2, .int a2), (3, .int a3)]) hx hb dX10_ownOf_253 hl (by decide) rfl (fun ls hl => ?_)
                        refine lv_iload hx hb dX10_ownOf_255 (lv_at hl 2 rfl) ?_
                        refine lv_istore (lv' := [(5, .int x36), (4, .int x51), (10, .int x40), (9, .int x36), (8, .int 1), (7, .int l4_7), (6, .int x2), (0, .ref (G.2.2.1 101)), (1, .int a1), (2, .int a2), (3, .int a3)]) hx hb dX10_ownOf_257 hl (by decide) rfl (fun ls hl => ?_)
                        obtain ⟨x52, ex52⟩ : ∃ y : Int32, y = l4_7 + 1 := ⟨_, rfl⟩
                        have h := g_nm ex52 h
                        refine lv_iinc (v := x52) (lv' := [(7, .int x52), (5, .int x36), (4, .int x51), (10, .int x40), (9, .int x36), (8, .int 1), (6, .int x2), (0, .ref (G.2.2.1 101)), (1, .int a1), (2, .int a2), (3, .int a3)]) hx hb dX10_ownOf_259 hl (k := 5) rfl (by rw [ex52]; rfl) (by decide) rfl (fun ls hl => ?_)
                        refine lv_goto (tgt := 52) hx hb dX10_ownOf_262 (by decide) ?_
                        exact ihL4 _ _ _ _ _ _ _ h hP hS (lv_sub hl [0, 6, 1, 2, 7, 8, 9, 10] rfl)
              · have h := g_ift c13 h
                refine lv_goto (tgt := 259) hx hb dX10_ownOf_106 (by decide) ?_
                obtain ⟨x53, ex53⟩ : ∃ y : Int32, y = l4_7 + 1 := ⟨_, rfl⟩
                have h := g_nm ex53 h
                refine lv_iinc (v := x53) (lv' := [(7, .int x53), (6, .int x2), (5, .int l4_5), (4, .int l4_4), (0, .ref (G.2.2.1 101)), (1, .int a1), (2, .int a2), (3, .int a3)]) hx hb dX10_ownOf_259 hl (k := 0) rfl (by rw [ex53]; rfl) (by decide) rfl (fun ls hl => ?_)
                refine lv_goto (tgt := 52) hx hb dX10_ownOf_262 (by decide) ?_
                exact ihL4 _ _ _ _ _ _ _ h hP hS (lv_sub hl [0, 1, 2, 3, 4, 5, 6, 7] rfl)
    refine LPL4 _ (fun z54 z55 z56 σ57 H locs ls h hP hS hl => ?_) gFu _ _ _ _ _ _ _ h hP hS (lv_sub hl [0, 1, 2, 3, 4, 5, 6, 7] rfl)
    refine lv_iload hx hb dX10_ownOf_265 (lv_at hl 3 rfl) ?_
    exact g_iret hx hb hr hlk hE hP hS h dX10_ownOf_267
  · have h := g_iff c3 h
    refine lv_aload_n hx hb dX10_ownOf_23 rfl (lv_at hl 3 rfl) ?_
    refine lv_iconst (v := 0) hx hb dX10_ownOf_24 (by decide) ?_
    refine lv_iload hx hb dX10_ownOf_25 (lv_at hl 0 rfl) ?_
    refine lv_iconst (v := 0) hx hb dX10_ownOf_27 (by decide) ?_
    obtain ⟨r59, σ58, hcr59, h⟩ := g_bd h
    refine g_callV (As := [.int 0, .int x2, .int 0]) (n := 3) hx hb hml hown ht (c_X10_hasLaw l G _ _ _ _ hcr59) m_918 m_920 m_21 m_41 m_921 (by decide +kernel) (by decide) gE_101 rfl hE hP hS (fun _ h => h) (fun _ _ h => h) rfl hl.1 rfl (Nat.le_of_ble_eq_true rfl) dX10_ownOf_28 ⟨by decide, by decide⟩ ⟨Nat.zero_le _, Nat.zero_le _⟩ (fun H locs hP hS => ?_)
    refine lv_if_eq (tgt := 49) hx hb dX10_ownOf_31 (by decide) (fun c60 => ?_) (fun c60 => ?_)
    · have h := g_ift c60 h
      refine lv_iconst (v := 0) hx hb dX10_ownOf_49 (by decide) ?_
      refine lv_istore (lv' := [(7, .int 0), (6, .int x2), (5, .int (-1)), (4, .int (-1)), (0, .ref (G.2.2.1 101)), (1, .int a1), (2, .int a2), (3, .int a3)]) hx hb dX10_ownOf_50 hl (by decide) rfl (fun ls hl => ?_)
      have LPL61 : ∀ (kL61 : Int32 → Int32 → Int32 → gSt → gO), (∀ (l61_7 l61_5 l61_4 : Int32) (σL61 : gSt) (H : Heap) (locs : List Loc) (ls : Array Slot), kL61 l61_7 l61_5 l61_4 σL61 = some (r, σ') → gW G σL61 H → va_S (gA G) s.heap H locs → lv_has ls 11 [(7, .int l61_7), (6, .int x2), (5, .int l61_5), (4, .int l61_4), (0, .ref (G.2.2.1 101)), (1, .int a1), (2, .int a2), (3, .int a3)] → W p l e (gRm 2 48) s m ([.ref (G.2.2.1 101), .int a1, .int a2, .int a3].toArray) below meth c H locs 0 0 (MQ below (gQ G r σ') ([.ref (G.2.2.1 101), .int a1, .int a2, .int a3].toArray) s 0 0 (gA G)) (F0 m 265 ls [])) → ∀ (nL61 : Nat) (l61_7 l61_5 l61_4 : Int32) (σL61 : gSt) (H : Heap) (locs : List Loc) (ls : Array Slot), L61_X10_ownOf x2 a1 a2 a3 nL61 l61_7 l61_5 l61_4 σL61 kL61 = some (r, σ') → gW G σL61 H → va_S (gA G) s.heap H locs → lv_has ls 11 [(7, .int l61_7), (6, .int x2), (5, .int l61_5), (4, .int l61_4), (0, .ref (G.2.2.1 101)), (1, .int a1), (2, .int a2), (3, .int a3)] → W p l e (gRm 2 48) s m ([.ref (G.2.2.1 101), .int a1, .int a2, .int a3].toArray) below meth c H locs 0 0 (MQ below (gQ G r σ') ([.ref (G.2.2.1 101), .int a1, .int a2, .int a3].toArray) s 0 0 (gA G)) (F0 m 52 ls []) := by
        intro kL61 hKL61 nL61
        induction nL61 with
        | zero =>
          intro l61_7 l61_5 l61_4 σL61 H locs ls h
          cases h
        | succ nL61 ihL61 =>
          intro l61_7 l61_5 l61_4 σL61 H locs ls h hP hS hl
          rw [L61_X10_ownOf] at h
          refine lv_iload hx hb dX10_ownOf_52 (lv_at hl 0 rfl) ?_
          refine lv_aload_n hx hb dX10_ownOf_54 rfl (lv_at hl 4 rfl) ?_
          refine g_get hx hb ht hown hE hP (by decide) gE_101 uX10 rfl 0 (by decide) m_790 rfl rfl dX10_ownOf_55 ?_
          refine lv_iconst (v := 2) hx hb dX10_ownOf_58 (by decide) ?_
          obtain ⟨i62, h⟩ := g_ix h
          refine g_iald hx hb hE hP (by decide) rfl (by decide) i62 dX10_ownOf_59 ?_
          refine lv_icmp_ge (tgt := 265) hx hb dX10_ownOf_60 (by decide) (fun c63 => ?_) (fun c63 => ?_)
          · have h := g_ift c63 h
            exact hKL61 _ _ _ _ _ _ _ h hP hS (lv_sub hl [0, 1, 2, 3, 4, 5, 6, 7] rfl)
          · have h := g_iff c63 h
            refine lv_aload_n hx hb dX10_ownOf_63 rfl (lv_at hl 4 rfl) ?_
            refine g_get hx hb ht hown hE hP (by decide) gE_101 uX10 rfl 0 (by decide) m_790 rfl rfl dX10_ownOf_64 ?_
            refine lv_sipush (v := 153) hx hb dX10_ownOf_67 (by decide) ?_
            refine lv_iload hx hb dX10_ownOf_70 (lv_at hl 0 rfl) ?_
            refine lv_iadd hx hb dX10_ownOf_72 ?_
            obtain ⟨i64, h⟩ := g_ix h
            refine g_iald hx hb hE hP (by decide) rfl (by decide) i64 dX10_ownOf_73 ?_
            refine lv_iload_n hx hb dX10_ownOf_74 rfl (lv_at hl 5 rfl) ?_
            refine lv_icmp_ne (tgt := 259) hx hb dX10_ownOf_75 (by decide) (fun c65 => ?_) (fun c65 => ?_)
            · have h := g_iff c65 h
              obtain ⟨x66, ex66⟩ : ∃ y : Int32, y = l61_7 + 1 := ⟨_, rfl⟩
              have h := g_nm ex66 h
              refine lv_iinc (v := x66) (lv' := [(7, .int x66), (6, .int x2), (5, .int l61_5), (4, .int l61_4), (0, .ref (G.2.2.1 101)), (1, .int a1), (2, .int a2), (3, .int a3)]) hx hb dX10_ownOf_259 hl (k := 0) rfl (by rw [ex66]; rfl) (by decide) rfl (fun ls hl => ?_)
              refine lv_goto (tgt := 52) hx hb dX10_ownOf_262 (by decide) ?_
              exact ihL61 _ _ _ _ _ _ _ h hP hS (lv_sub hl [0, 1, 2, 3, 4, 5, 6, 7] rfl)
            · have h := g_ift c65 h
              refine lv_aload_n hx hb dX10_ownOf_78 rfl (lv_at hl 4 rfl) ?_
              refine g_get hx hb ht hown hE hP (by decide) gE_101 uX10 rfl 0 (by decide) m_790 rfl rfl dX10_ownOf_79 ?_
              refine lv_sipush (v := 273) hx hb dX10_ownOf_82 (by decide) ?_
              refine lv_iload hx hb dX10_ownOf_85 (lv_at hl 0 rfl) ?_
              refine lv_iadd hx hb dX10_ownOf_87 ?_
              obtain ⟨i67, h⟩ := g_ix h
              refine g_iald hx hb hE hP (by decide) rfl (by decide) i67 dX10_ownOf_88 ?_
              refine lv_iload_n hx hb dX10_ownOf_89 rfl (lv_at hl 7 rfl) ?_
              refine lv_icmp_gt (tgt := 259) hx hb dX10_ownOf_90 (by decide) (fun c68 => ?_) (fun c68 => ?_)
              · have h := g_ift c68 h
                obtain ⟨x69, ex69⟩ : ∃ y : Int32, y = l61_7 + 1 := ⟨_, rfl⟩
                have h := g_nm ex69 h
                refine lv_iinc (v := x69) (lv' := [(7, .int x69), (6, .int x2), (5, .int l61_5), (4, .int l61_4), (0, .ref (G.2.2.1 101)), (1, .int a1), (2, .int a2), (3, .int a3)]) hx hb dX10_ownOf_259 hl (k := 0) rfl (by rw [ex69]; rfl) (by decide) rfl (fun ls hl => ?_)
                refine lv_goto (tgt := 52) hx hb dX10_ownOf_262 (by decide) ?_
                exact ihL61 _ _ _ _ _ _ _ h hP hS (lv_sub hl [0, 1, 2, 3, 4, 5, 6, 7] rfl)
              · have h := g_iff c68 h
                refine lv_aload_n hx hb dX10_ownOf_93 rfl (lv_at hl 4 rfl) ?_
                refine g_get hx hb ht hown hE hP (by decide) gE_101 uX10 rfl 7 (by decide) m_797 rfl rfl dX10_ownOf_94 ?_
                refine lv_iload hx hb dX10_ownOf_97 (lv_at hl 0 rfl) ?_
                refine lv_ishr hx hb dX10_ownOf_99 ?_
                refine lv_iconst (v := 1) hx hb dX10_ownOf_100 (by decide) ?_
                refine lv_iand hx hb dX10_ownOf_101 ?_
                refine lv_iconst (v := 1) hx hb dX10_ownOf_102 (by decide) ?_
                refine lv_icmp_ne (tgt := 109) hx hb dX10_ownOf_103 (by decide) (fun c70 => ?_) (fun c70 => ?_)
                · have h := g_iff c70 h
                  refine lv_aload_n hx hb dX10_ownOf_109 rfl (lv_at hl 4 rfl) ?_
                  refine g_get hx hb ht hown hE hP (by decide) gE_101 uX10 rfl 0 (by decide) m_790 rfl rfl dX10_ownOf_110 ?_
                  refine lv_sipush (v := 129) hx hb dX10_ownOf_113 (by decide) ?_
                  refine lv_iload hx hb dX10_ownOf_116 (lv_at hl 0 rfl) ?_
                  refine lv_iadd hx hb dX10_ownOf_118 ?_
                  obtain ⟨i71, h⟩ := g_ix h
                  refine g_iald hx hb hE hP (by decide) rfl (by decide) i71 dX10_ownOf_119 ?_
                  refine lv_if_ne (tgt := 127) hx hb dX10_ownOf_120 (by decide) (fun c72 => ?_) (fun c72 => ?_)
                  · have h := g_iff c72 h
                    refine lv_iconst (v := 0) hx hb dX10_ownOf_127 (by decide) ?_
                    refine lv_istore (lv' := [(8, .int 0), (7, .int l61_7), (6, .int x2), (5, .int l61_5), (4, .int l61_4), (0, .ref (G.2.2.1 101)), (1, .int a1), (2, .int a2), (3, .int a3)]) hx hb dX10_ownOf_128 hl (by decide) rfl (fun ls hl => ?_)
                    refine lv_iload hx hb dX10_ownOf_130 (lv_at hl 0 rfl) ?_
                    refine lv_if_eq (tgt := 149) hx hb dX10_ownOf_132 (by decide) (fun _ => ?_) (fun c73 => absurd (by decide) c73)
                    refine lv_aload_n hx hb dX10_ownOf_149 rfl (lv_at hl 5 rfl) ?_
                    refine g_get hx hb ht hown hE hP (by decide) gE_101 uX10 rfl 0 (by decide) m_790 rfl rfl dX10_ownOf_150 ?_
                    refine lv_sipush (v := 225) hx hb dX10_ownOf_153 (by decide) ?_
                    refine lv_iload hx hb dX10_ownOf_156 (lv_at hl 1 rfl) ?_
                    refine lv_iadd hx hb dX10_ownOf_158 ?_
                    obtain ⟨i74, h⟩ := g_ix h
                    refine g_iald hx hb hE hP (by decide) rfl (by decide) i74 dX10_ownOf_159 ?_
                    refine lv_topi (fun x75 ex75 => ?_)
                    have h := g_nm ex75 h
                    refine lv_istore (lv' := [(9, .int x75), (8, .int 0), (7, .int l61_7), (6, .int x2), (5, .int l61_5), (4, .int l61_4), (0, .ref (G.2.2.1 101)), (1, .int a1), (2, .int a2), (3, .int a3)]) hx hb dX10_ownOf_160 hl (by decide) rfl (fun ls hl => ?_)
                    refine lv_iload hx hb dX10_ownOf_162 (lv_at hl 1 rfl) ?_
                    refine lv_if_eq (tgt := 195) hx hb dX10_ownOf_164 (by decide) (fun _ => ?_) (fun c76 => absurd (by decide) c76)
                    refine lv_aload_n hx hb dX10_ownOf_195 rfl (lv_at hl 6 rfl) ?_
                    refine g_get hx hb ht hown hE hP (by decide) gE_101 uX10 rfl 0 (by decide) m_790 rfl rfl dX10_ownOf_196 ?_
                    refine lv_sipush (v := 201) hx hb dX10_ownOf_199 (by decide) ?_
                    refine lv_iload hx hb dX10_ownOf_202 (lv_at hl 2 rfl) ?_
                    refine lv_iadd hx hb dX10_ownOf_204 ?_
                    obtain ⟨i77, h⟩ := g_ix h
                    refine g_iald hx hb hE hP (by decide) rfl (by decide) i77 dX10_ownOf_205 ?_
                    refine lv_topi (fun x78 ex78 => ?_)
                    have h := g_nm ex78 h
                    refine lv_istore (lv' := [(10, .int x78), (9, .int x75), (8, .int 0), (7, .int l61_7), (6, .int x2), (5, .int l61_5), (4, .int l61_4), (0, .ref (G.2.2.1 101)), (1, .int a1), (2, .int a2), (3, .int a3)]) hx hb dX10_ownOf_206 hl (by decide) rfl (fun ls hl => ?_)
                    refine lv_iload hx hb dX10_ownOf_208 (lv_at hl 1 rfl) ?_
                    refine lv_iload_n hx hb dX10_ownOf_210 rfl (lv_at hl 9 rfl) ?_
                    refine lv_icmp_gt (tgt := 259) hx hb dX10_ownOf_211 (by decide) (fun c79 => ?_) (fun c79 => ?_)
                    · have h := g_ift c79 h
                      obtain ⟨x80, ex80⟩ : ∃ y : Int32, y = l61_7 + 1 := ⟨_, rfl⟩
                      have h := g_nm ex80 h
                      refine lv_iinc (v := x80) (lv' := [(7, .int x80), (10, .int x78), (9, .int x75), (8, .int 0), (6, .int x2), (5, .int l61_5), (4, .int l61_4), (0, .ref (G.2.2.1 101)), (1, .int a1), (2, .int a2), (3, .int a3)]) hx hb dX10_ownOf_259 hl (k := 3) rfl (by rw [ex80]; rfl) (by decide) rfl (fun ls hl => ?_)
                      refine lv_goto (tgt := 52) hx hb dX10_ownOf_262 (by decide) ?_
                      exact ihL61 _ _ _ _ _ _ _ h hP hS (lv_sub hl [0, 4, 5, 6, 7, 8, 9, 10] rfl)
                    · have h := g_iff c79 h
                      refine lv_iload hx hb dX10_ownOf_214 (lv_at hl 1 rfl) ?_
                      refine lv_iload hx hb dX10_ownOf_216 (lv_at hl 5 rfl) ?_
                      refine lv_icmp_lt (tgt := 259) hx hb dX10_ownOf_218 (by decide) (fun c81 => ?_) (fun c81 => ?_)
                      · have h := g_ift c81 h
                        obtain ⟨x82, ex82⟩ : ∃ y : Int32, y = l61_7 + 1 := ⟨_, rfl⟩
                        have h := g_nm ex82 h
                        refine lv_iinc (v := x82) (lv' := [(7, .int x82), (10, .int x78), (9, .int x75), (8, .int 0), (6, .int x2), (5, .int l61_5), (4, .int l61_4), (0, .ref (G.2.2.1 101)), (1, .int a1), (2, .int a2), (3, .int a3)]) hx hb dX10_ownOf_259 hl (k := 3) rfl (by rw [ex82]; rfl) (by decide) rfl (fun ls hl => ?_)
                        refine lv_goto (tgt := 52) hx hb dX10_ownOf_262 (by decide) ?_
                        exact ihL61 _ _ _ _ _ _ _ h hP hS (lv_sub hl [0, 4, 5, 6, 7, 8, 9, 10] rfl)
                      · have h := g_iff c81 h
                        refine lv_aload_n hx hb dX10_ownOf_221 rfl (lv_at hl 7 rfl) ?_
                        refine lv_iload hx hb dX10_ownOf_222 (lv_at hl 2 rfl) ?_
                        refine lv_if_eq (tgt := 231) hx hb dX10_ownOf_224 (by decide) (fun _ => ?_) (fun c83 => absurd (by decide) c83)
                        refine lv_iconst (v := 2) hx hb dX10_ownOf_231 (by decide) ?_
                        refine lv_iload hx hb dX10_ownOf_232 (lv_at hl 1 rfl) ?_
                        refine lv_iload hx hb dX10_ownOf_234 (lv_at hl 0 rfl) ?_
                        obtain ⟨r85, σ84, hcr85, h⟩ := g_bd h
                        refine g_callV (As := [.int 2, .int x75, .int x78]) (n := 3) hx hb hml hown ht (c_X10_hasLaw l G _ _ _ _ hcr85) m_918 m_920 m_21 m_41 m_921 (by decide +kernel) (by decide) gE_101 rfl hE hP hS (fun _ h => h) (fun _ _ h => h) rfl hl.1 rfl (Nat.le_of_ble_eq_true rfl) dX10_ownOf_236 ⟨by decide, by decide⟩ ⟨Nat.zero_le _, Nat.zero_le _⟩ (fun H locs hP hS => ?_)
                        refine lv_if_eq (tgt := 259) hx hb dX10_ownOf_239 (by decide) (fun c86 => ?_) (fun c86 => ?_)
                        · have h := g_ift c86 h
                          obtain ⟨x87, ex87⟩ : ∃ y : Int32, y = l61_7 + 1 := ⟨_, rfl⟩
                          have h := g_nm ex87 h
                          refine lv_iinc (v := x87) (lv' := [(7, .int x87), (10, .int x78), (9, .int x75), (8, .int 0), (6, .int x2), (5, .int l61_5), (4, .int l61_4), (0, .ref (G.2.2.1 101)), (1, .int a1), (2, .int a2), (3, .int a3)]) hx hb dX10_ownOf_259 hl (k := 3) rfl (by rw [ex87]; rfl) (by decide) rfl (fun ls hl => ?_)
                          refine lv_goto (tgt := 52) hx hb dX10_ownOf_262 (by decide) ?_
                          exact ihL61 _ _ _ _ _ _ _ h hP hS (lv_sub hl [0, 4, 5, 6, 7, 8, 9, 10] rfl)
                        · have h := g_iff c86 h
                          refine lv_aload_n hx hb dX10_ownOf_242 rfl (lv_at hl 7 rfl) ?_
                          refine g_get hx hb ht hown hE hP (by decide) gE_101 uX10 rfl 0 (by decide) m_790 rfl rfl dX10_ownOf_243 ?_
                          refine lv_sipush (v := 177) hx hb dX10_ownOf_246 (by decide) ?_
                          refine lv_iload hx hb dX10_ownOf_249 (lv_at hl 3 rfl) ?_
                          refine lv_iadd hx hb dX10_ownOf_251 ?_
                          obtain ⟨i88, h⟩ := g_ix h
                          refine g_iald hx hb hE hP (by decide) rfl (by decide) i88 dX10_ownOf_252 ?_
                          refine lv_topi (fun x89 ex89 => ?_)
                          have h := g_nm ex89 h
                          refine lv_istore (lv' := [(4, .int x89), (10, .int x78), (9, .int x75), (8, .int 0), (7, .int l61_7), (6, .int x2), (5, .int l61_5), (0, .ref (G.2.2.1 101)), (1, .int a1), (2, .int a2), (3, .int a3)]) hx hb dX10_ownOf_253 hl (by decide) rfl (fun ls hl => ?_)
                          refine lv_iload hx hb dX10_ownOf_255 (lv_at hl 2 rfl) ?_
                          refine lv_istore (lv' := [(5, .int x75), (4, .int x89), (10, .int x78), (9, .int x75), (8, .int 0), (7, .int l61_7), (6, .int x2), (0, .ref (G.2.2.1 101)), (1, .int a1), (2, .int a2), (3, .int a3)]) hx hb dX10_ownOf_257 hl (by decide) rfl (fun ls hl => ?_)
                          obtain ⟨x90, ex90⟩ : ∃ y : Int32, y = l61_7 + 1 := ⟨_, rfl⟩
                          have h := g_nm ex90 h
                          refine lv_iinc (v := x90) (lv' := [(7, .int x90), (5, .int x75), (4, .int x89), (10, .int x78), (9, .int x75), (8, .int 0), (6, .int x2), (0, .ref (G.2.2.1 101)), (1, .int a1), (2, .int a2), (3, .int a3)]) hx hb dX10_ownOf_259 hl (k := 5) rfl (by rw [ex90]; rfl) (by decide) rfl (fun ls hl => ?_)
                          refine lv_goto (tgt := 52) hx hb dX10_ownOf_262 (by decide) ?_
                          exact ihL61 _ _ _ _ _ _ _ h hP hS (lv_sub hl [0, 6, 1, 2, 7, 8, 9, 10] rfl)
                  · have h := g_ift c72 h
                    refine lv_iconst (v := 1) hx hb dX10_ownOf_123 (by decide) ?_
                    refine lv_goto (tgt := 128) hx hb dX10_ownOf_124 (by decide) ?_
                    refine lv_istore (lv' := [(8, .int 1), (7, .int l61_7), (6, .int x2), (5, .int l61_5), (4, .int l61_4), (0, .ref (G.2.2.1 101)), (1, .int a1), (2, .int a2), (3, .int a3)]) hx hb dX10_ownOf_128 hl (by decide) rfl (fun ls hl => ?_)
                    refine lv_iload hx hb dX10_ownOf_130 (lv_at hl 0 rfl) ?_
                    refine lv_if_eq (tgt := 149) hx hb dX10_ownOf_132 (by decide) (fun c91 => absurd c91 (by decide)) (fun _ => ?_)
                    refine lv_aload_n hx hb dX10_ownOf_135 rfl (lv_at hl 5 rfl) ?_
                    refine g_get hx hb ht hown hE hP (by decide) gE_101 uX10 rfl 0 (by decide) m_790 rfl rfl dX10_ownOf_136 ?_
                    refine lv_sipush (v := 249) hx hb dX10_ownOf_139 (by decide) ?_
                    refine lv_iload hx hb dX10_ownOf_142 (lv_at hl 1 rfl) ?_
                    refine lv_iadd hx hb dX10_ownOf_144 ?_
                    obtain ⟨i92, h⟩ := g_ix h
                    refine g_iald hx hb hE hP (by decide) rfl (by decide) i92 dX10_ownOf_145 ?_
                    refine lv_goto (tgt := 160) hx hb dX10_ownOf_146 (by decide) ?_
                    refine lv_topi (fun x93 ex93 => ?_)
                    have h := g_nm ex93 h
                    refine lv_istore (lv' := [(9, .int x93), (8, .int 1), (7, .int l61_7), (6, .int x2), (5, .int l61_5), (4, .int l61_4), (0, .ref (G.2.2.1 101)), (1, .int a1), (2, .int a2), (3, .int a3)]) hx hb dX10_ownOf_160 hl (by decide) rfl (fun ls hl => ?_)
                    refine lv_iload hx hb dX10_ownOf_162 (lv_at hl 1 rfl) ?_
                    refine lv_if_eq (tgt := 195) hx hb dX10_ownOf_164 (by decide) (fun c94 => absurd c94 (by decide)) (fun _ => ?_)
                    refine lv_aload_n hx hb dX10_ownOf_167 rfl (lv_at hl 6 rfl) ?_
                    refine g_get hx hb ht hown hE hP (by decide) gE_101 uX10 rfl 0 (by decide) m_790 rfl rfl dX10_ownOf_168 ?_
                    refine lv_sipush (v := 249) hx hb dX10_ownOf_171 (by decide) ?_
                    refine lv_iload hx hb dX10_ownOf_174 (lv_at hl 2 rfl) ?_
                    refine lv_iadd hx hb dX10_ownOf_176 ?_
                    obtain ⟨i95, h⟩ := g_ix h
                    refine g_iald hx hb hE hP (by decide) rfl (by decide) i95 dX10_ownOf_177 ?_
                    refine lv_aload_n hx hb dX10_ownOf_178 rfl (lv_at hl 6 rfl) ?_
                    refine g_get hx hb ht hown hE hP (by decide) gE_101 uX10 rfl 0 (by decide) m_790 rfl rfl dX10_ownOf_179 ?_
                    refine lv_sipush (v := 225) hx hb dX10_ownOf_182 (by decide) ?_
                    refine lv_iload hx hb dX10_ownOf_185 (lv_at hl 2 rfl) ?_
                    refine lv_iadd hx hb dX10_ownOf_187 ?_
                    obtain ⟨i96, h⟩ := g_ix h
                    refine g_iald hx hb hE hP (by decide) rfl (by decide) i96 dX10_ownOf_188 ?_
                    refine lv_isub hx hb dX10_ownOf_189 ?_
                    refine lv_iconst (v := 1) hx hb dX10_ownOf_190 (by decide) ?_
                    refine lv_iadd hx hb dX10_ownOf_191 ?_
                    refine lv_goto (tgt := 206) hx hb dX10_ownOf_192 (by decide) ?_
                    refine lv_topi (fun x97 ex97 => ?_)
                    have h := g_nm ex97 h
                    refine lv_istore (lv' := [(10, .int x97), (9, .int x93), (8, .int 1), (7, .int l61_7), (6, .int x2), (5, .int l61_5), (4, .int l61_4), (0, .ref (G.2.2.1 101)), (1, .int a1), (2, .int a2), (3, .int a3)]) hx hb dX10_ownOf_206 hl (by decide) rfl (fun ls hl => ?_)
                    refine lv_iload hx hb dX10_ownOf_208 (lv_at hl 1 rfl) ?_
                    refine lv_iload_n hx hb dX10_ownOf_210 rfl (lv_at hl 9 rfl) ?_
                    refine lv_icmp_gt (tgt := 259) hx hb dX10_ownOf_211 (by decide) (fun c98 => ?_) (fun c98 => ?_)
                    · have h := g_ift c98 h
                      obtain ⟨x99, ex99⟩ : ∃ y : Int32, y = l61_7 + 1 := ⟨_, rfl⟩
                      have h := g_nm ex99 h
                      refine lv_iinc (v := x99) (lv' := [(7, .int x99), (10, .int x97), (9, .int x93), (8, .int 1), (6, .int x2), (5, .int l61_5), (4, .int l61_4), (0, .ref (G.2.2.1 101)), (1, .int a1), (2, .int a2), (3, .int a3)]) hx hb dX10_ownOf_259 hl (k := 3) rfl (by rw [ex99]; rfl) (by decide) rfl (fun ls hl => ?_)
                      refine lv_goto (tgt := 52) hx hb dX10_ownOf_262 (by decide) ?_
                      exact ihL61 _ _ _ _ _ _ _ h hP hS (lv_sub hl [0, 4, 5, 6, 7, 8, 9, 10] rfl)
                    · have h := g_iff c98 h
                      refine lv_iload hx hb dX10_ownOf_214 (lv_at hl 1 rfl) ?_
                      refine lv_iload hx hb dX10_ownOf_216 (lv_at hl 5 rfl) ?_
                      refine lv_icmp_lt (tgt := 259) hx hb dX10_ownOf_218 (by decide) (fun c100 => ?_) (fun c100 => ?_)
                      · have h := g_ift c100 h
                        obtain ⟨x101, ex101⟩ : ∃ y : Int32, y = l61_7 + 1 := ⟨_, rfl⟩
                        have h := g_nm ex101 h
                        refine lv_iinc (v := x101) (lv' := [(7, .int x101), (10, .int x97), (9, .int x93), (8, .int 1), (6, .int x2), (5, .int l61_5), (4, .int l61_4), (0, .ref (G.2.2.1 101)), (1, .int a1), (2, .int a2), (3, .int a3)]) hx hb dX10_ownOf_259 hl (k := 3) rfl (by rw [ex101]; rfl) (by decide) rfl (fun ls hl => ?_)
                        refine lv_goto (tgt := 52) hx hb dX10_ownOf_262 (by decide) ?_
                        exact ihL61 _ _ _ _ _ _ _ h hP hS (lv_sub hl [0, 4, 5, 6, 7, 8, 9, 10] rfl)
                      · have h := g_iff c100 h
                        refine lv_aload_n hx hb dX10_ownOf_221 rfl (lv_at hl 7 rfl) ?_
                        refine lv_iload hx hb dX10_ownOf_222 (lv_at hl 2 rfl) ?_
                        refine lv_if_eq (tgt := 231) hx hb dX10_ownOf_224 (by decide) (fun c102 => absurd c102 (by decide)) (fun _ => ?_)
                        refine lv_iconst (v := 1) hx hb dX10_ownOf_227 (by decide) ?_
                        refine lv_goto (tgt := 232) hx hb dX10_ownOf_228 (by decide) ?_
                        refine lv_iload hx hb dX10_ownOf_232 (lv_at hl 1 rfl) ?_
                        refine lv_iload hx hb dX10_ownOf_234 (lv_at hl 0 rfl) ?_
                        obtain ⟨r104, σ103, hcr104, h⟩ := g_bd h
                        refine g_callV (As := [.int 1, .int x93, .int x97]) (n := 3) hx hb hml hown ht (c_X10_hasLaw l G _ _ _ _ hcr104) m_918 m_920 m_21 m_41 m_921 (by decide +kernel) (by decide) gE_101 rfl hE hP hS (fun _ h => h) (fun _ _ h => h) rfl hl.1 rfl (Nat.le_of_ble_eq_true rfl) dX10_ownOf_236 ⟨by decide, by decide⟩ ⟨Nat.zero_le _, Nat.zero_le _⟩ (fun H locs hP hS => ?_)
                        refine lv_if_eq (tgt := 259) hx hb dX10_ownOf_239 (by decide) (fun c105 => ?_) (fun c105 => ?_)
                        · have h := g_ift c105 h
                          obtain ⟨x106, ex106⟩ : ∃ y : Int32, y = l61_7 + 1 := ⟨_, rfl⟩
                          have h := g_nm ex106 h
                          refine lv_iinc (v := x106) (lv' := [(7, .int x106), (10, .int x97), (9, .int x93), (8, .int 1), (6, .int x2), (5, .int l61_5), (4, .int l61_4), (0, .ref (G.2.2.1 101)), (1, .int a1), (2, .int a2), (3, .int a3)]) hx hb dX10_ownOf_259 hl (k := 3) rfl (by rw [ex106]; rfl) (by decide) rfl (fun ls hl => ?_)
                          refine lv_goto (tgt := 52) hx hb dX10_ownOf_262 (by decide) ?_
                          exact ihL61 _ _ _ _ _ _ _ h hP hS (lv_sub hl [0, 4, 5, 6, 7, 8, 9, 10] rfl)
                        · have h := g_iff c105 h
                          refine lv_aload_n hx hb dX10_ownOf_242 rfl (lv_at hl 7 rfl) ?_
                          refine g_get hx hb ht hown hE hP (by decide) gE_101 uX10 rfl 0 (by decide) m_790 rfl rfl dX10_ownOf_243 ?_
                          refine lv_sipush (v := 177) hx hb dX10_ownOf_246 (by decide) ?_
                          refine lv_iload hx hb dX10_ownOf_249 (lv_at hl 3 rfl) ?_
                          refine lv_iadd hx hb dX10_ownOf_251 ?_
                          obtain ⟨i107, h⟩ := g_ix h
                          refine g_iald hx hb hE hP (by decide) rfl (by decide) i107 dX10_ownOf_252 ?_
                          refine lv_topi (fun x108 ex108 => ?_)
                          have h := g_nm ex108 h
                          refine lv_istore (lv' := [(4, .int x108), (10, .int x97), (9, .int x93), (8, .int 1), (7, .int l61_7), (6, .int x2), (5, .int l61_5), (0, .ref (G.2.2.1 101)), (1, .int a1), (2, .int a2), (3, .int a3)]) hx hb dX10_ownOf_253 hl (by decide) rfl (fun ls hl => ?_)
                          refine lv_iload hx hb dX10_ownOf_255 (lv_at hl 2 rfl) ?_
                          refine lv_istore (lv' := [(5, .int x93), (4, .int x108), (10, .int x97), (9, .int x93), (8, .int 1), (7, .int l61_7), (6, .int x2), (0, .ref (G.2.2.1 101)), (1, .int a1), (2, .int a2), (3, .int a3)]) hx hb dX10_ownOf_257 hl (by decide) rfl (fun ls hl => ?_)
                          obtain ⟨x109, ex109⟩ : ∃ y : Int32, y = l61_7 + 1 := ⟨_, rfl⟩
                          have h := g_nm ex109 h
                          refine lv_iinc (v := x109) (lv' := [(7, .int x109), (5, .int x93), (4, .int x108), (10, .int x97), (9, .int x93), (8, .int 1), (6, .int x2), (0, .ref (G.2.2.1 101)), (1, .int a1), (2, .int a2), (3, .int a3)]) hx hb dX10_ownOf_259 hl (k := 5) rfl (by rw [ex109]; rfl) (by decide) rfl (fun ls hl => ?_)
                          refine lv_goto (tgt := 52) hx hb dX10_ownOf_262 (by decide) ?_
                          exact ihL61 _ _ _ _ _ _ _ h hP hS (lv_sub hl [0, 6, 1, 2, 7, 8, 9, 10] rfl)
                · have h := g_ift c70 h
                  refine lv_goto (tgt := 259) hx hb dX10_ownOf_106 (by decide) ?_
                  obtain ⟨x110, ex110⟩ : ∃ y : Int32, y = l61_7 + 1 := ⟨_, rfl⟩
                  have h := g_nm ex110 h
                  refine lv_iinc (v := x110) (lv' := [(7, .int x110), (6, .int x2), (5, .int l61_5), (4, .int l61_4), (0, .ref (G.2.2.1 101)), (1, .int a1), (2, .int a2), (3, .int a3)]) hx hb dX10_ownOf_259 hl (k := 0) rfl (by rw [ex110]; rfl) (by decide) rfl (fun ls hl => ?_)
                  refine lv_goto (tgt := 52) hx hb dX10_ownOf_262 (by decide) ?_
                  exact ihL61 _ _ _ _ _ _ _ h hP hS (lv_sub hl [0, 1, 2, 3, 4, 5, 6, 7] rfl)
      refine LPL61 _ (fun z111 z112 z113 σ114 H locs ls h hP hS hl => ?_) gFu _ _ _ _ _ _ _ h hP hS (lv_sub hl [0, 1, 2, 3, 4, 5, 6, 7] rfl)
      refine lv_iload hx hb dX10_ownOf_265 (lv_at hl 3 rfl) ?_
      exact g_iret hx hb hr hlk hE hP hS h dX10_ownOf_267
    · have h := g_iff c60 h
      refine lv_aload_n hx hb dX10_ownOf_34 rfl (lv_at hl 3 rfl) ?_
      refine g_get hx hb ht hown hE hP (by decide) gE_101 uX10 rfl 0 (by decide) m_790 rfl rfl dX10_ownOf_35 ?_
      refine lv_bipush (v := 59) hx hb dX10_ownOf_38 (by decide) ?_
      refine lv_iload_n hx hb dX10_ownOf_40 rfl (lv_at hl 4 rfl) ?_
      refine lv_iadd hx hb dX10_ownOf_41 ?_
      obtain ⟨i115, h⟩ := g_ix h
      refine g_iald hx hb hE hP (by decide) rfl (by decide) i115 dX10_ownOf_42 ?_
      refine lv_topi (fun x116 ex116 => ?_)
      have h := g_nm ex116 h
      refine lv_istore (lv' := [(4, .int x116), (6, .int x2), (5, .int (-1)), (0, .ref (G.2.2.1 101)), (1, .int a1), (2, .int a2), (3, .int a3)]) hx hb dX10_ownOf_43 hl (by decide) rfl (fun ls hl => ?_)
      refine lv_iload hx hb dX10_ownOf_45 (lv_at hl 1 rfl) ?_
      refine lv_istore (lv' := [(5, .int x2), (4, .int x116), (6, .int x2), (0, .ref (G.2.2.1 101)), (1, .int a1), (2, .int a2), (3, .int a3)]) hx hb dX10_ownOf_47 hl (by decide) rfl (fun ls hl => ?_)
      refine lv_iconst (v := 0) hx hb dX10_ownOf_49 (by decide) ?_
      refine lv_istore (lv' := [(7, .int 0), (5, .int x2), (4, .int x116), (6, .int x2), (0, .ref (G.2.2.1 101)), (1, .int a1), (2, .int a2), (3, .int a3)]) hx hb dX10_ownOf_50 hl (by decide) rfl (fun ls hl => ?_)
      have LPL117 : ∀ (kL117 : Int32 → Int32 → Int32 → gSt → gO), (∀ (l117_7 l117_5 l117_4 : Int32) (σL117 : gSt) (H : Heap) (locs : List Loc) (ls : Array Slot), kL117 l117_7 l117_5 l117_4 σL117 = some (r, σ') → gW G σL117 H → va_S (gA G) s.heap H locs → lv_has ls 11 [(7, .int l117_7), (5, .int l117_5), (4, .int l117_4), (6, .int x2), (0, .ref (G.2.2.1 101)), (1, .int a1), (2, .int a2), (3, .int a3)] → W p l e (gRm 2 48) s m ([.ref (G.2.2.1 101), .int a1, .int a2, .int a3].toArray) below meth c H locs 0 0 (MQ below (gQ G r σ') ([.ref (G.2.2.1 101), .int a1, .int a2, .int a3].toArray) s 0 0 (gA G)) (F0 m 265 ls [])) → ∀ (nL117 : Nat) (l117_7 l117_5 l117_4 : Int32) (σL117 : gSt) (H : Heap) (locs : List Loc) (ls : Array Slot), L117_X10_ownOf x2 a1 a2 a3 nL117 l117_7 l117_5 l117_4 σL117 kL117 = some (r, σ') → gW G σL117 H → va_S (gA G) s.heap H locs → lv_has ls 11 [(7, .int l117_7), (5, .int l117_5), (4, .int l117_4), (6, .int x2), (0, .ref (G.2.2.1 101)), (1, .int a1), (2, .int a2), (3, .int a3)] → W p l e (gRm 2 48) s m ([.ref (G.2.2.1 101), .int a1, .int a2, .int a3].toArray) below meth c H locs 0 0 (MQ below (gQ G r σ') ([.ref (G.2.2.1 101), .int a1, .int a2, .int a3].toArray) s 0 0 (gA G)) (F0 m 52 ls []) := by
        intro kL117 hKL117 nL117
        induction nL117 with
        | zero =>
          intro l117_7 l117_5 l117_4 σL117 H locs ls h
          cases h
        | succ nL117 ihL117 =>
          intro l117_7 l117_5 l117_4 σL117 H locs ls h hP hS hl
          rw [L117_X10_ownOf] at h
          refine lv_iload hx hb dX10_ownOf_52 (lv_at hl 0 rfl) ?_
          refine lv_aload_n hx hb dX10_ownOf_54 rfl (lv_at hl 4 rfl) ?_
          refine g_get hx hb ht hown hE hP (by decide) gE_101 uX10 rfl 0 (by decide) m_790 rfl rfl dX10_ownOf_55 ?_
          refine lv_iconst (v := 2) hx hb dX10_ownOf_58 (by decide) ?_
          obtain ⟨i118, h⟩ := g_ix h
          refine g_iald hx hb hE hP (by decide) rfl (by decide) i118 dX10_ownOf_59 ?_
          refine lv_icmp_ge (tgt := 265) hx hb dX10_ownOf_60 (by decide) (fun c119 => ?_) (fun c119 => ?_)
          · have h := g_ift c119 h
            exact hKL117 _ _ _ _ _ _ _ h hP hS (lv_sub hl [0, 1, 2, 3, 4, 5, 6, 7] rfl)
          · have h := g_iff c119 h
            refine lv_aload_n hx hb dX10_ownOf_63 rfl (lv_at hl 4 rfl) ?_
            refine g_get hx hb ht hown hE hP (by decide) gE_101 uX10 rfl 0 (by decide) m_790 rfl rfl dX10_ownOf_64 ?_
            refine lv_sipush (v := 153) hx hb dX10_ownOf_67 (by decide) ?_
            refine lv_iload hx hb dX10_ownOf_70 (lv_at hl 0 rfl) ?_
            refine lv_iadd hx hb dX10_ownOf_72 ?_
            obtain ⟨i120, h⟩ := g_ix h
            refine g_iald hx hb hE hP (by decide) rfl (by decide) i120 dX10_ownOf_73 ?_
            refine lv_iload_n hx hb dX10_ownOf_74 rfl (lv_at hl 5 rfl) ?_
            refine lv_icmp_ne (tgt := 259) hx hb dX10_ownOf_75 (by decide) (fun c121 => ?_) (fun c121 => ?_)
            · have h := g_iff c121 h
              obtain ⟨x122, ex122⟩ : ∃ y : Int32, y = l117_7 + 1 := ⟨_, rfl⟩
              have h := g_nm ex122 h
              refine lv_iinc (v := x122) (lv' := [(7, .int x122), (5, .int l117_5), (4, .int l117_4), (6, .int x2), (0, .ref (G.2.2.1 101)), (1, .int a1), (2, .int a2), (3, .int a3)]) hx hb dX10_ownOf_259 hl (k := 0) rfl (by rw [ex122]; rfl) (by decide) rfl (fun ls hl => ?_)
              refine lv_goto (tgt := 52) hx hb dX10_ownOf_262 (by decide) ?_
              exact ihL117 _ _ _ _ _ _ _ h hP hS (lv_sub hl [0, 1, 2, 3, 4, 5, 6, 7] rfl)
            · have h := g_ift c121 h
              refine lv_aload_n hx hb dX10_ownOf_78 rfl (lv_at hl 4 rfl) ?_
              refine g_get hx hb ht hown hE hP (by decide) gE_101 uX10 rfl 0 (by decide) m_790 rfl rfl dX10_ownOf_79 ?_
              refine lv_sipush (v := 273) hx hb dX10_ownOf_82 (by decide) ?_
              refine lv_iload hx hb dX10_ownOf_85 (lv_at hl 0 rfl) ?_
              refine lv_iadd hx hb dX10_ownOf_87 ?_
              obtain ⟨i123, h⟩ := g_ix h
              refine g_iald hx hb hE hP (by decide) rfl (by decide) i123 dX10_ownOf_88 ?_
              refine lv_iload_n hx hb dX10_ownOf_89 rfl (lv_at hl 7 rfl) ?_
              refine lv_icmp_gt (tgt := 259) hx hb dX10_ownOf_90 (by decide) (fun c124 => ?_) (fun c124 => ?_)
              · have h := g_ift c124 h
                obtain ⟨x125, ex125⟩ : ∃ y : Int32, y = l117_7 + 1 := ⟨_, rfl⟩
                have h := g_nm ex125 h
                refine lv_iinc (v := x125) (lv' := [(7, .int x125), (5, .int l117_5), (4, .int l117_4), (6, .int x2), (0, .ref (G.2.2.1 101)), (1, .int a1), (2, .int a2), (3, .int a3)]) hx hb dX10_ownOf_259 hl (k := 0) rfl (by rw [ex125]; rfl) (by decide) rfl (fun ls hl => ?_)
                refine lv_goto (tgt := 52) hx hb dX10_ownOf_262 (by decide) ?_
                exact ihL117 _ _ _ _ _ _ _ h hP hS (lv_sub hl [0, 1, 2, 3, 4, 5, 6, 7] rfl)
              · have h := g_iff c124 h
                refine lv_aload_n hx hb dX10_ownOf_93 rfl (lv_at hl 4 rfl) ?_
                refine g_get hx hb ht hown hE hP (by decide) gE_101 uX10 rfl 7 (by decide) m_797 rfl rfl dX10_ownOf_94 ?_
                refine lv_iload hx hb dX10_ownOf_97 (lv_at hl 0 rfl) ?_
                refine lv_ishr hx hb dX10_ownOf_99 ?_
                refine lv_iconst (v := 1) hx hb dX10_ownOf_100 (by decide) ?_
                refine lv_iand hx hb dX10_ownOf_101 ?_
                refine lv_iconst (v := 1) hx hb dX10_ownOf_102 (by decide) ?_
                refine lv_icmp_ne (tgt := 109) hx hb dX10_ownOf_103 (by decide) (fun c126 => ?_) (fun c126 => ?_)
                · have h := g_iff c126 h
                  refine lv_aload_n hx hb dX10_ownOf_109 rfl (lv_at hl 4 rfl) ?_
                  refine g_get hx hb ht hown hE hP (by decide) gE_101 uX10 rfl 0 (by decide) m_790 rfl rfl dX10_ownOf_110 ?_
                  refine lv_sipush (v := 129) hx hb dX10_ownOf_113 (by decide) ?_
                  refine lv_iload hx hb dX10_ownOf_116 (lv_at hl 0 rfl) ?_
                  refine lv_iadd hx hb dX10_ownOf_118 ?_
                  obtain ⟨i127, h⟩ := g_ix h
                  refine g_iald hx hb hE hP (by decide) rfl (by decide) i127 dX10_ownOf_119 ?_
                  refine lv_if_ne (tgt := 127) hx hb dX10_ownOf_120 (by decide) (fun c128 => ?_) (fun c128 => ?_)
                  · have h := g_iff c128 h
                    refine lv_iconst (v := 0) hx hb dX10_ownOf_127 (by decide) ?_
                    refine lv_istore (lv' := [(8, .int 0), (7, .int l117_7), (5, .int l117_5), (4, .int l117_4), (6, .int x2), (0, .ref (G.2.2.1 101)), (1, .int a1), (2, .int a2), (3, .int a3)]) hx hb dX10_ownOf_128 hl (by decide) rfl (fun ls hl => ?_)
                    refine lv_iload hx hb dX10_ownOf_130 (lv_at hl 0 rfl) ?_
                    refine lv_if_eq (tgt := 149) hx hb dX10_ownOf_132 (by decide) (fun _ => ?_) (fun c129 => absurd (by decide) c129)
                    refine lv_aload_n hx hb dX10_ownOf_149 rfl (lv_at hl 5 rfl) ?_
                    refine g_get hx hb ht hown hE hP (by decide) gE_101 uX10 rfl 0 (by decide) m_790 rfl rfl dX10_ownOf_150 ?_
                    refine lv_sipush (v := 225) hx hb dX10_ownOf_153 (by decide) ?_
                    refine lv_iload hx hb dX10_ownOf_156 (lv_at hl 1 rfl) ?_
                    refine lv_iadd hx hb dX10_ownOf_158 ?_
                    obtain ⟨i130, h⟩ := g_ix h
                    refine g_iald hx hb hE hP (by decide) rfl (by decide) i130 dX10_ownOf_159 ?_
                    refine lv_topi (fun x131 ex131 => ?_)
                    have h := g_nm ex131 h
                    refine lv_istore (lv' := [(9, .int x131), (8, .int 0), (7, .int l117_7), (5, .int l117_5), (4, .int l117_4), (6, .int x2), (0, .ref (G.2.2.1 101)), (1, .int a1), (2, .int a2), (3, .int a3)]) hx hb dX10_ownOf_160 hl (by decide) rfl (fun ls hl => ?_)
                    refine lv_iload hx hb dX10_ownOf_162 (lv_at hl 1 rfl) ?_
                    refine lv_if_eq (tgt := 195) hx hb dX10_ownOf_164 (by decide) (fun _ => ?_) (fun c132 => absurd (by decide) c132)
                    refine lv_aload_n hx hb dX10_ownOf_195 rfl (lv_at hl 6 rfl) ?_
                    refine g_get hx hb ht hown hE hP (by decide) gE_101 uX10 rfl 0 (by decide) m_790 rfl rfl dX10_ownOf_196 ?_
                    refine lv_sipush (v := 201) hx hb dX10_ownOf_199 (by decide) ?_
                    refine lv_iload hx hb dX10_ownOf_202 (lv_at hl 2 rfl) ?_
                    refine lv_iadd hx hb dX10_ownOf_204 ?_
                    obtain ⟨i133, h⟩ := g_ix h
                    refine g_iald hx hb hE hP (by decide) rfl (by decide) i133 dX10_ownOf_205 ?_
                    refine lv_topi (fun x134 ex134 => ?_)
                    have h := g_nm ex134 h
                    refine lv_istore (lv' := [(10, .int x134), (9, .int x131), (8, .int 0), (7, .int l117_7), (5, .int l117_5), (4, .int l117_4), (6, .int x2), (0, .ref (G.2.2.1 101)), (1, .int a1), (2, .int a2), (3, .int a3)]) hx hb dX10_ownOf_206 hl (by decide) rfl (fun ls hl => ?_)
                    refine lv_iload hx hb dX10_ownOf_208 (lv_at hl 1 rfl) ?_
                    refine lv_iload_n hx hb dX10_ownOf_210 rfl (lv_at hl 9 rfl) ?_
                    refine lv_icmp_gt (tgt := 259) hx hb dX10_ownOf_211 (by decide) (fun c135 => ?_) (fun c135 => ?_)
                    · have h := g_ift c135 h
                      obtain ⟨x136, ex136⟩ : ∃ y : Int32, y = l117_7 + 1 := ⟨_, rfl⟩
                      have h := g_nm ex136 h
                      refine lv_iinc (v := x136) (lv' := [(7, .int x136), (10, .int x134), (9, .int x131), (8, .int 0), (5, .int l117_5), (4, .int l117_4), (6, .int x2), (0, .ref (G.2.2.1 101)), (1, .int a1), (2, .int a2), (3, .int a3)]) hx hb dX10_ownOf_259 hl (k := 3) rfl (by rw [ex136]; rfl) (by decide) rfl (fun ls hl => ?_)
                      refine lv_goto (tgt := 52) hx hb dX10_ownOf_262 (by decide) ?_
                      exact ihL117 _ _ _ _ _ _ _ h hP hS (lv_sub hl [0, 4, 5, 6, 7, 8, 9, 10] rfl)
                    · have h := g_iff c135 h
                      refine lv_iload hx hb dX10_ownOf_214 (lv_at hl 1 rfl) ?_
                      refine lv_iload hx hb dX10_ownOf_216 (lv_at hl 4 rfl) ?_
                      refine lv_icmp_lt (tgt := 259) hx hb dX10_ownOf_218 (by decide) (fun c137 => ?_) (fun c137 => ?_)
                      · have h := g_ift c137 h
                        obtain ⟨x138, ex138⟩ : ∃ y : Int32, y = l117_7 + 1 := ⟨_, rfl⟩
                        have h := g_nm ex138 h
                        refine lv_iinc (v := x138) (lv' := [(7, .int x138), (10, .int x134), (9, .int x131), (8, .int 0), (5, .int l117_5), (4, .int l117_4), (6, .int x2), (0, .ref (G.2.2.1 101)), (1, .int a1), (2, .int a2), (3, .int a3)]) hx hb dX10_ownOf_259 hl (k := 3) rfl (by rw [ex138]; rfl) (by decide) rfl (fun ls hl => ?_)
                        refine lv_goto (tgt := 52) hx hb dX10_ownOf_262 (by decide) ?_
                        exact ihL117 _ _ _ _ _ _ _ h hP hS (lv_sub hl [0, 4, 5, 6, 7, 8, 9, 10] rfl)
                      · have h := g_iff c137 h
                        refine lv_aload_n hx hb dX10_ownOf_221 rfl (lv_at hl 7 rfl) ?_
                        refine lv_iload hx hb dX10_ownOf_222 (lv_at hl 2 rfl) ?_
                        refine lv_if_eq (tgt := 231) hx hb dX10_ownOf_224 (by decide) (fun _ => ?_) (fun c139 => absurd (by decide) c139)
                        refine lv_iconst (v := 2) hx hb dX10_ownOf_231 (by decide) ?_
                        refine lv_iload hx hb dX10_ownOf_232 (lv_at hl 1 rfl) ?_
                        refine lv_iload hx hb dX10_ownOf_234 (lv_at hl 0 rfl) ?_
                        obtain ⟨r141, σ140, hcr141, h⟩ := g_bd h
                        refine g_callV (As := [.int 2, .int x131, .int x134]) (n := 3) hx hb hml hown ht (c_X10_hasLaw l G _ _ _ _ hcr141) m_918 m_920 m_21 m_41 m_921 (by decide +kernel) (by decide) gE_101 rfl hE hP hS (fun _ h => h) (fun _ _ h => h) rfl hl.1 rfl (Nat.le_of_ble_eq_true rfl) dX10_ownOf_236 ⟨by decide, by decide⟩ ⟨Nat.zero_le _, Nat.zero_le _⟩ (fun H locs hP hS => ?_)
                        refine lv_if_eq (tgt := 259) hx hb dX10_ownOf_239 (by decide) (fun c142 => ?_) (fun c142 => ?_)
                        · have h := g_ift c142 h
                          obtain ⟨x143, ex143⟩ : ∃ y : Int32, y = l117_7 + 1 := ⟨_, rfl⟩
                          have h := g_nm ex143 h
                          refine lv_iinc (v := x143) (lv' := [(7, .int x143), (10, .int x134), (9, .int x131), (8, .int 0), (5, .int l117_5), (4, .int l117_4), (6, .int x2), (0, .ref (G.2.2.1 101)), (1, .int a1), (2, .int a2), (3, .int a3)]) hx hb dX10_ownOf_259 hl (k := 3) rfl (by rw [ex143]; rfl) (by decide) rfl (fun ls hl => ?_)
                          refine lv_goto (tgt := 52) hx hb dX10_ownOf_262 (by decide) ?_
                          exact ihL117 _ _ _ _ _ _ _ h hP hS (lv_sub hl [0, 4, 5, 6, 7, 8, 9, 10] rfl)
                        · have h := g_iff c142 h
                          refine lv_aload_n hx hb dX10_ownOf_242 rfl (lv_at hl 7 rfl) ?_
                          refine g_get hx hb ht hown hE hP (by decide) gE_101 uX10 rfl 0 (by decide) m_790 rfl rfl dX10_ownOf_243 ?_
                          refine lv_sipush (v := 177) hx hb dX10_ownOf_246 (by decide) ?_
                          refine lv_iload hx hb dX10_ownOf_249 (lv_at hl 3 rfl) ?_
                          refine lv_iadd hx hb dX10_ownOf_251 ?_
                          obtain ⟨i144, h⟩ := g_ix h
                          refine g_iald hx hb hE hP (by decide) rfl (by decide) i144 dX10_ownOf_252 ?_
                          refine lv_topi (fun x145 ex145 => ?_)
                          have h := g_nm ex145 h
                          refine lv_istore (lv' := [(4, .int x145), (10, .int x134), (9, .int x131), (8, .int 0), (7, .int l117_7), (5, .int l117_5), (6, .int x2), (0, .ref (G.2.2.1 101)), (1, .int a1), (2, .int a2), (3, .int a3)]) hx hb dX10_ownOf_253 hl (by decide) rfl (fun ls hl => ?_)
                          refine lv_iload hx hb dX10_ownOf_255 (lv_at hl 2 rfl) ?_
                          refine lv_istore (lv' := [(5, .int x131), (4, .int x145), (10, .int x134), (9, .int x131), (8, .int 0), (7, .int l117_7), (6, .int x2), (0, .ref (G.2.2.1 101)), (1, .int a1), (2, .int a2), (3, .int a3)]) hx hb dX10_ownOf_257 hl (by decide) rfl (fun ls hl => ?_)
                          obtain ⟨x146, ex146⟩ : ∃ y : Int32, y = l117_7 + 1 := ⟨_, rfl⟩
                          have h := g_nm ex146 h
                          refine lv_iinc (v := x146) (lv' := [(7, .int x146), (5, .int x131), (4, .int x145), (10, .int x134), (9, .int x131), (8, .int 0), (6, .int x2), (0, .ref (G.2.2.1 101)), (1, .int a1), (2, .int a2), (3, .int a3)]) hx hb dX10_ownOf_259 hl (k := 5) rfl (by rw [ex146]; rfl) (by decide) rfl (fun ls hl => ?_)
                          refine lv_goto (tgt := 52) hx hb dX10_ownOf_262 (by decide) ?_
                          exact ihL117 _ _ _ _ _ _ _ h hP hS (lv_sub hl [0, 1, 2, 6, 7, 8, 9, 10] rfl)
                  · have h := g_ift c128 h
                    refine lv_iconst (v := 1) hx hb dX10_ownOf_123 (by decide) ?_
                    refine lv_goto (tgt := 128) hx hb dX10_ownOf_124 (by decide) ?_
                    refine lv_istore (lv' := [(8, .int 1), (7, .int l117_7), (5, .int l117_5), (4, .int l117_4), (6, .int x2), (0, .ref (G.2.2.1 101)), (1, .int a1), (2, .int a2), (3, .int a3)]) hx hb dX10_ownOf_128 hl (by decide) rfl (fun ls hl => ?_)
                    refine lv_iload hx hb dX10_ownOf_130 (lv_at hl 0 rfl) ?_
                    refine lv_if_eq (tgt := 149) hx hb dX10_ownOf_132 (by decide) (fun c147 => absurd c147 (by decide)) (fun _ => ?_)
                    refine lv_aload_n hx hb dX10_ownOf_135 rfl (lv_at hl 5 rfl) ?_
                    refine g_get hx hb ht hown hE hP (by decide) gE_101 uX10 rfl 0 (by decide) m_790 rfl rfl dX10_ownOf_136 ?_
                    refine lv_sipush (v := 249) hx hb dX10_ownOf_139 (by decide) ?_
                    refine lv_iload hx hb dX10_ownOf_142 (lv_at hl 1 rfl) ?_
                    refine lv_iadd hx hb dX10_ownOf_144 ?_
                    obtain ⟨i148, h⟩ := g_ix h
                    refine g_iald hx hb hE hP (by decide) rfl (by decide) i148 dX10_ownOf_145 ?_
                    refine lv_goto (tgt := 160) hx hb dX10_ownOf_146 (by decide) ?_
                    refine lv_topi (fun x149 ex149 => ?_)
                    have h := g_nm ex149 h
                    refine lv_istore (lv' := [(9, .int x149), (8, .int 1), (7, .int l117_7), (5, .int l117_5), (4, .int l117_4), (6, .int x2), (0, .ref (G.2.2.1 101)), (1, .int a1), (2, .int a2), (3, .int a3)]) hx hb dX10_ownOf_160 hl (by decide) rfl (fun ls hl => ?_)
                    refine lv_iload hx hb dX10_ownOf_162 (lv_at hl 1 rfl) ?_
                    refine lv_if_eq (tgt := 195) hx hb dX10_ownOf_164 (by decide) (fun c150 => absurd c150 (by decide)) (fun _ => ?_)
                    refine lv_aload_n hx hb dX10_ownOf_167 rfl (lv_at hl 6 rfl) ?_
                    refine g_get hx hb ht hown hE hP (by decide) gE_101 uX10 rfl 0 (by decide) m_790 rfl rfl dX10_ownOf_168 ?_
                    refine lv_sipush (v := 249) hx hb dX10_ownOf_171 (by decide) ?_
                    refine lv_iload hx hb dX10_ownOf_174 (lv_at hl 2 rfl) ?_
                    refine lv_iadd hx hb dX10_ownOf_176 ?_
                    obtain ⟨i151, h⟩ := g_ix h
                    refine g_iald hx hb hE hP (by decide) rfl (by decide) i151 dX10_ownOf_177 ?_
                    refine lv_aload_n hx hb dX10_ownOf_178 rfl (lv_at hl 6 rfl) ?_
                    refine g_get hx hb ht hown hE hP (by decide) gE_101 uX10 rfl 0 (by decide) m_790 rfl rfl dX10_ownOf_179 ?_
                    refine lv_sipush (v := 225) hx hb dX10_ownOf_182 (by decide) ?_
                    refine lv_iload hx hb dX10_ownOf_185 (lv_at hl 2 rfl) ?_
                    refine lv_iadd hx hb dX10_ownOf_187 ?_
                    obtain ⟨i152, h⟩ := g_ix h
                    refine g_iald hx hb hE hP (by decide) rfl (by decide) i152 dX10_ownOf_188 ?_
                    refine lv_isub hx hb dX10_ownOf_189 ?_
                    refine lv_iconst (v := 1) hx hb dX10_ownOf_190 (by decide) ?_
                    refine lv_iadd hx hb dX10_ownOf_191 ?_
                    refine lv_goto (tgt := 206) hx hb dX10_ownOf_192 (by decide) ?_
                    refine lv_topi (fun x153 ex153 => ?_)
                    have h := g_nm ex153 h
                    refine lv_istore (lv' := [(10, .int x153), (9, .int x149), (8, .int 1), (7, .int l117_7), (5, .int l117_5), (4, .int l117_4), (6, .int x2), (0, .ref (G.2.2.1 101)), (1, .int a1), (2, .int a2), (3, .int a3)]) hx hb dX10_ownOf_206 hl (by decide) rfl (fun ls hl => ?_)
                    refine lv_iload hx hb dX10_ownOf_208 (lv_at hl 1 rfl) ?_
                    refine lv_iload_n hx hb dX10_ownOf_210 rfl (lv_at hl 9 rfl) ?_
                    refine lv_icmp_gt (tgt := 259) hx hb dX10_ownOf_211 (by decide) (fun c154 => ?_) (fun c154 => ?_)
                    · have h := g_ift c154 h
                      obtain ⟨x155, ex155⟩ : ∃ y : Int32, y = l117_7 + 1 := ⟨_, rfl⟩
                      have h := g_nm ex155 h
                      refine lv_iinc (v := x155) (lv' := [(7, .int x155), (10, .int x153), (9, .int x149), (8, .int 1), (5, .int l117_5), (4, .int l117_4), (6, .int x2), (0, .ref (G.2.2.1 101)), (1, .int a1), (2, .int a2), (3, .int a3)]) hx hb dX10_ownOf_259 hl (k := 3) rfl (by rw [ex155]; rfl) (by decide) rfl (fun ls hl => ?_)
                      refine lv_goto (tgt := 52) hx hb dX10_ownOf_262 (by decide) ?_
                      exact ihL117 _ _ _ _ _ _ _ h hP hS (lv_sub hl [0, 4, 5, 6, 7, 8, 9, 10] rfl)
                    · have h := g_iff c154 h
                      refine lv_iload hx hb dX10_ownOf_214 (lv_at hl 1 rfl) ?_
                      refine lv_iload hx hb dX10_ownOf_216 (lv_at hl 4 rfl) ?_
                      refine lv_icmp_lt (tgt := 259) hx hb dX10_ownOf_218 (by decide) (fun c156 => ?_) (fun c156 => ?_)
                      · have h := g_ift c156 h
                        obtain ⟨x157, ex157⟩ : ∃ y : Int32, y = l117_7 + 1 := ⟨_, rfl⟩
                        have h := g_nm ex157 h
                        refine lv_iinc (v := x157) (lv' := [(7, .int x157), (10, .int x153), (9, .int x149), (8, .int 1), (5, .int l117_5), (4, .int l117_4), (6, .int x2), (0, .ref (G.2.2.1 101)), (1, .int a1), (2, .int a2), (3, .int a3)]) hx hb dX10_ownOf_259 hl (k := 3) rfl (by rw [ex157]; rfl) (by decide) rfl (fun ls hl => ?_)
                        refine lv_goto (tgt := 52) hx hb dX10_ownOf_262 (by decide) ?_
                        exact ihL117 _ _ _ _ _ _ _ h hP hS (lv_sub hl [0, 4, 5, 6, 7, 8, 9, 10] rfl)
                      · have h := g_iff c156 h
                        refine lv_aload_n hx hb dX10_ownOf_221 rfl (lv_at hl 7 rfl) ?_
                        refine lv_iload hx hb dX10_ownOf_222 (lv_at hl 2 rfl) ?_
                        refine lv_if_eq (tgt := 231) hx hb dX10_ownOf_224 (by decide) (fun c158 => absurd c158 (by decide)) (fun _ => ?_)
                        refine lv_iconst (v := 1) hx hb dX10_ownOf_227 (by decide) ?_
                        refine lv_goto (tgt := 232) hx hb dX10_ownOf_228 (by decide) ?_
                        refine lv_iload hx hb dX10_ownOf_232 (lv_at hl 1 rfl) ?_
                        refine lv_iload hx hb dX10_ownOf_234 (lv_at hl 0 rfl) ?_
                        obtain ⟨r160, σ159, hcr160, h⟩ := g_bd h
                        refine g_callV (As := [.int 1, .int x149, .int x153]) (n := 3) hx hb hml hown ht (c_X10_hasLaw l G _ _ _ _ hcr160) m_918 m_920 m_21 m_41 m_921 (by decide +kernel) (by decide) gE_101 rfl hE hP hS (fun _ h => h) (fun _ _ h => h) rfl hl.1 rfl (Nat.le_of_ble_eq_true rfl) dX10_ownOf_236 ⟨by decide, by decide⟩ ⟨Nat.zero_le _, Nat.zero_le _⟩ (fun H locs hP hS => ?_)
                        refine lv_if_eq (tgt := 259) hx hb dX10_ownOf_239 (by decide) (fun c161 => ?_) (fun c161 => ?_)
                        · have h := g_ift c161 h
                          obtain ⟨x162, ex162⟩ : ∃ y : Int32, y = l117_7 + 1 := ⟨_, rfl⟩
                          have h := g_nm ex162 h
                          refine lv_iinc (v := x162) (lv' := [(7, .int x162), (10, .int x153), (9, .int x149), (8, .int 1), (5, .int l117_5), (4, .int l117_4), (6, .int x2), (0, .ref (G.2.2.1 101)), (1, .int a1), (2, .int a2), (3, .int a3)]) hx hb dX10_ownOf_259 hl (k := 3) rfl (by rw [ex162]; rfl) (by decide) rfl (fun ls hl => ?_)
                          refine lv_goto (tgt := 52) hx hb dX10_ownOf_262 (by decide) ?_
                          exact ihL117 _ _ _ _ _ _ _ h hP hS (lv_sub hl [0, 4, 5, 6, 7, 8, 9, 10] rfl)
                        · have h := g_iff c161 h
                          refine lv_aload_n hx hb dX10_ownOf_242 rfl (lv_at hl 7 rfl) ?_
                          refine g_get hx hb ht hown hE hP (by decide) gE_101 uX10 rfl 0 (by decide) m_790 rfl rfl dX10_ownOf_243 ?_
                          refine lv_sipush (v := 177) hx hb dX10_ownOf_246 (by decide) ?_
                          refine lv_iload hx hb dX10_ownOf_249 (lv_at hl 3 rfl) ?_
                          refine lv_iadd hx hb dX10_ownOf_251 ?_
                          obtain ⟨i163, h⟩ := g_ix h
                          refine g_iald hx hb hE hP (by decide) rfl (by decide) i163 dX10_ownOf_252 ?_
                          refine lv_topi (fun x164 ex164 => ?_)
                          have h := g_nm ex164 h
                          refine lv_istore (lv' := [(4, .int x164), (10, .int x153), (9, .int x149), (8, .int 1), (7, .int l117_7), (5, .int l117_5), (6, .int x2), (0, .ref (G.2.2.1 101)), (1, .int a1), (2, .int a2), (3, .int a3)]) hx hb dX10_ownOf_253 hl (by decide) rfl (fun ls hl => ?_)
                          refine lv_iload hx hb dX10_ownOf_255 (lv_at hl 2 rfl) ?_
                          refine lv_istore (lv' := [(5, .int x149), (4, .int x164), (10, .int x153), (9, .int x149), (8, .int 1), (7, .int l117_7), (6, .int x2), (0, .ref (G.2.2.1 101)), (1, .int a1), (2, .int a2), (3, .int a3)]) hx hb dX10_ownOf_257 hl (by decide) rfl (fun ls hl => ?_)
                          obtain ⟨x165, ex165⟩ : ∃ y : Int32, y = l117_7 + 1 := ⟨_, rfl⟩
                          have h := g_nm ex165 h
                          refine lv_iinc (v := x165) (lv' := [(7, .int x165), (5, .int x149), (4, .int x164), (10, .int x153), (9, .int x149), (8, .int 1), (6, .int x2), (0, .ref (G.2.2.1 101)), (1, .int a1), (2, .int a2), (3, .int a3)]) hx hb dX10_ownOf_259 hl (k := 5) rfl (by rw [ex165]; rfl) (by decide) rfl (fun ls hl => ?_)
                          refine lv_goto (tgt := 52) hx hb dX10_ownOf_262 (by decide) ?_
                          exact ihL117 _ _ _ _ _ _ _ h hP hS (lv_sub hl [0, 1, 2, 6, 7, 8, 9, 10] rfl)
                · have h := g_ift c126 h
                  refine lv_goto (tgt := 259) hx hb dX10_ownOf_106 (by decide) ?_
                  obtain ⟨x166, ex166⟩ : ∃ y : Int32, y = l117_7 + 1 := ⟨_, rfl⟩
                  have h := g_nm ex166 h
                  refine lv_iinc (v := x166) (lv' := [(7, .int x166), (5, .int l117_5), (4, .int l117_4), (6, .int x2), (0, .ref (G.2.2.1 101)), (1, .int a1), (2, .int a2), (3, .int a3)]) hx hb dX10_ownOf_259 hl (k := 0) rfl (by rw [ex166]; rfl) (by decide) rfl (fun ls hl => ?_)
                  refine lv_goto (tgt := 52) hx hb dX10_ownOf_262 (by decide) ?_
                  exact ihL117 _ _ _ _ _ _ _ h hP hS (lv_sub hl [0, 1, 2, 3, 4, 5, 6, 7] rfl)
      refine LPL117 _ (fun z167 z168 z169 σ170 H locs ls h hP hS hl => ?_) gFu _ _ _ _ _ _ _ h hP hS (lv_sub hl [0, 1, 2, 3, 4, 5, 6, 7] rfl)
      refine lv_iload hx hb dX10_ownOf_265 (lv_at hl 2 rfl) ?_
      exact g_iret hx hb hr hlk hE hP hS h dX10_ownOf_267

def L7_X10_goesBy (x6 a1 a2 : Int32) : Nat → Int32 → Int32 → gSt → (Int32 → Int32 → gSt → gO) → gO
  | 0, _, _, _, _ => none
  | nL7 + 1, l7_5, l7_4, σL7, kL7 =>
    gIx 549 3 (if (σL7 102 (3 : Int32).toNatClampNeg) ≤ l7_5 then (kL7 l7_5 l7_4 σL7) else (if l7_4 = 0 then (gBd (M_X10_isForce l7_5 4 x6 σL7) (fun r13 σ12 => if r13 = 0 then (gNm (l7_5 + 1 : Int32) (fun x15 => L7_X10_goesBy x6 a1 a2 nL7 x15 0 σ12 kL7)) else (gIx 549 ((333 : Int32) + l7_5) (if (σ12 102 ((333 : Int32) + l7_5).toNatClampNeg) ≤ (a2 - x6) then (gNm (l7_5 + 1 : Int32) (fun x18 => L7_X10_goesBy x6 a1 a2 nL7 x18 0 σ12 kL7)) else (gNm (l7_5 + 1 : Int32) (fun x19 => L7_X10_goesBy x6 a1 a2 nL7 x19 1 σ12 kL7)))))) else (gNm (l7_5 + 1 : Int32) (fun x11 => L7_X10_goesBy x6 a1 a2 nL7 x11 1 σL7 kL7))))
def M_X10_goesBy (a1 a2 : Int32) (σ : gSt) : gO :=
  gIx 549 ((79 : Int32) + a1) (if 0 ≤ (σ 102 ((79 : Int32) + a1).toNatClampNeg) then (gIx 549 ((49 : Int32) + a1) (if (σ 102 ((49 : Int32) + a1).toNatClampNeg) = 1 then (gIx 549 ((89 : Int32) + a1) (gNm ((σ 102 ((89 : Int32) + a1).toNatClampNeg) : Int32) (fun x26 => if a2 < x26 then (some (0, σ)) else (gBd (M_X10_hasLaw 3 x26 0 σ) (fun r29 σ28 => if r29 = 0 then (some (0, σ28)) else (some (1, σ28))))))) else (gIx 549 ((69 : Int32) + a1) (gNm ((σ 102 ((69 : Int32) + a1).toNatClampNeg) : Int32) (fun x6 => L7_X10_goesBy x6 a1 a2 gFu 0 0 σ (fun z20 z21 σ22 => if a2 < x6 then (some (0, σ22)) else (if z21 = 0 then (some (0, σ22)) else (some (1, σ22))))))))) else (some (0, σ)))
set_option maxHeartbeats 4000000 in
set_option maxRecDepth 100000 in
theorem c_X10_goesBy (l : Launch) (G : gPar) (a1 a2 : Int32) (σ : gSt) {r : Int32} {σ' : gSt} (h : M_X10_goesBy a1 a2 σ = some (r, σ')) : gC l G yX10_goesBy cX10_goesBy 6 (some .boolean) 2 48 [.ref (G.2.2.1 101), .int a1, .int a2] σ r σ' := by
  refine gC_of (by decide) (Nat.le_of_ble_eq_true rfl) ?_
  intro p e s m below meth c hx hb hr ht hown hlk hml hE hP ls hl
  have hS : va_S (gA G) s.heap s.heap [] := va_S.rf
  have hl : lv_has ls 6 [(0, .ref (G.2.2.1 101)), (1, .int a1), (2, .int a2)] := hl
  unfold M_X10_goesBy at h
  refine lv_aload_n hx hb dX10_goesBy_0 rfl (lv_at hl 0 rfl) ?_
  refine g_get hx hb ht hown hE hP (by decide) gE_101 uX10 rfl 0 (by decide) m_790 rfl rfl dX10_goesBy_1 ?_
  refine lv_bipush (v := 79) hx hb dX10_goesBy_4 (by decide) ?_
  refine lv_iload_n hx hb dX10_goesBy_6 rfl (lv_at hl 1 rfl) ?_
  refine lv_iadd hx hb dX10_goesBy_7 ?_
  obtain ⟨i1, h⟩ := g_ix h
  refine g_iald hx hb hE hP (by decide) rfl (by decide) i1 dX10_goesBy_8 ?_
  refine lv_if_ge (tgt := 14) hx hb dX10_goesBy_9 (by decide) (fun c2 => ?_) (fun c2 => ?_)
  · have h := g_ift c2 h
    refine lv_aload_n hx hb dX10_goesBy_14 rfl (lv_at hl 0 rfl) ?_
    refine g_get hx hb ht hown hE hP (by decide) gE_101 uX10 rfl 0 (by decide) m_790 rfl rfl dX10_goesBy_15 ?_
    refine lv_bipush (v := 49) hx hb dX10_goesBy_18 (by decide) ?_
    refine lv_iload_n hx hb dX10_goesBy_20 rfl (lv_at hl 1 rfl) ?_
    refine lv_iadd hx hb dX10_goesBy_21 ?_
    obtain ⟨i3, h⟩ := g_ix h
    refine g_iald hx hb hE hP (by decide) rfl (by decide) i3 dX10_goesBy_22 ?_
    refine lv_iconst (v := 1) hx hb dX10_goesBy_23 (by decide) ?_
    refine lv_icmp_ne (tgt := 58) hx hb dX10_goesBy_24 (by decide) (fun c4 => ?_) (fun c4 => ?_)
    · have h := g_iff c4 h
      refine lv_aload_n hx hb dX10_goesBy_58 rfl (lv_at hl 0 rfl) ?_
      refine g_get hx hb ht hown hE hP (by decide) gE_101 uX10 rfl 0 (by decide) m_790 rfl rfl dX10_goesBy_59 ?_
      refine lv_bipush (v := 69) hx hb dX10_goesBy_62 (by decide) ?_
      refine lv_iload_n hx hb dX10_goesBy_64 rfl (lv_at hl 1 rfl) ?_
      refine lv_iadd hx hb dX10_goesBy_65 ?_
      obtain ⟨i5, h⟩ := g_ix h
      refine g_iald hx hb hE hP (by decide) rfl (by decide) i5 dX10_goesBy_66 ?_
      refine lv_topi (fun x6 ex6 => ?_)
      have h := g_nm ex6 h
      refine lv_istore_n (lv' := [(3, .int x6), (0, .ref (G.2.2.1 101)), (1, .int a1), (2, .int a2)]) hx hb dX10_goesBy_67 rfl hl (by decide) rfl (fun ls hl => ?_)
      refine lv_iconst (v := 0) hx hb dX10_goesBy_68 (by decide) ?_
      refine lv_istore (lv' := [(4, .int 0), (3, .int x6), (0, .ref (G.2.2.1 101)), (1, .int a1), (2, .int a2)]) hx hb dX10_goesBy_69 hl (by decide) rfl (fun ls hl => ?_)
      refine lv_iconst (v := 0) hx hb dX10_goesBy_71 (by decide) ?_
      refine lv_istore (lv' := [(5, .int 0), (4, .int 0), (3, .int x6), (0, .ref (G.2.2.1 101)), (1, .int a1), (2, .int a2)]) hx hb dX10_goesBy_72 hl (by decide) rfl (fun ls hl => ?_)
      have LPL7 : ∀ (kL7 : Int32 → Int32 → gSt → gO), (∀ (l7_5 l7_4 : Int32) (σL7 : gSt) (H : Heap) (locs : List Loc) (ls : Array Slot), kL7 l7_5 l7_4 σL7 = some (r, σ') → gW G σL7 H → va_S (gA G) s.heap H locs → lv_has ls 6 [(5, .int l7_5), (4, .int l7_4), (3, .int x6), (0, .ref (G.2.2.1 101)), (1, .int a1), (2, .int a2)] → W p l e (gRm 2 48) s m ([.ref (G.2.2.1 101), .int a1, .int a2].toArray) below meth c H locs 0 0 (MQ below (gQ G r σ') ([.ref (G.2.2.1 101), .int a1, .int a2].toArray) s 0 0 (gA G)) (F0 m 131 ls [])) → ∀ (nL7 : Nat) (l7_5 l7_4 : Int32) (σL7 : gSt) (H : Heap) (locs : List Loc) (ls : Array Slot), L7_X10_goesBy x6 a1 a2 nL7 l7_5 l7_4 σL7 kL7 = some (r, σ') → gW G σL7 H → va_S (gA G) s.heap H locs → lv_has ls 6 [(5, .int l7_5), (4, .int l7_4), (3, .int x6), (0, .ref (G.2.2.1 101)), (1, .int a1), (2, .int a2)] → W p l e (gRm 2 48) s m ([.ref (G.2.2.1 101), .int a1, .int a2].toArray) below meth c H locs 0 0 (MQ below (gQ G r σ') ([.ref (G.2.2.1 101), .int a1, .int a2].toArray) s 0 0 (gA G)) (F0 m 74 ls []) := by
        intro kL7 hKL7 nL7
        induction nL7 with
        | zero =>
          intro l7_5 l7_4 σL7 H locs ls h
          cases h
        | succ nL7 ihL7 =>
          intro l7_5 l7_4 σL7 H locs ls h hP hS hl
          rw [L7_X10_goesBy] at h
          refine lv_iload hx hb dX10_goesBy_74 (lv_at hl 0 rfl) ?_
          refine lv_aload_n hx hb dX10_goesBy_76 rfl (lv_at hl 3 rfl) ?_
          refine g_get hx hb ht hown hE hP (by decide) gE_101 uX10 rfl 0 (by decide) m_790 rfl rfl dX10_goesBy_77 ?_
          refine lv_iconst (v := 3) hx hb dX10_goesBy_80 (by decide) ?_
          obtain ⟨i8, h⟩ := g_ix h
          refine g_iald hx hb hE hP (by decide) rfl (by decide) i8 dX10_goesBy_81 ?_
          refine lv_icmp_ge (tgt := 131) hx hb dX10_goesBy_82 (by decide) (fun c9 => ?_) (fun c9 => ?_)
          · have h := g_ift c9 h
            exact hKL7 _ _ _ _ _ _ h hP hS (lv_sub hl [0, 1, 2, 3, 4, 5] rfl)
          · have h := g_iff c9 h
            refine lv_iload hx hb dX10_goesBy_85 (lv_at hl 1 rfl) ?_
            refine lv_if_ne (tgt := 118) hx hb dX10_goesBy_87 (by decide) (fun c10 => ?_) (fun c10 => ?_)
            · have h := g_iff c10 h
              refine lv_iconst (v := 1) hx hb dX10_goesBy_118 (by decide) ?_
              refine lv_goto (tgt := 123) hx hb dX10_goesBy_119 (by decide) ?_
              refine lv_istore (lv' := [(4, .int 1), (5, .int l7_5), (3, .int x6), (0, .ref (G.2.2.1 101)), (1, .int a1), (2, .int a2)]) hx hb dX10_goesBy_123 hl (by decide) rfl (fun ls hl => ?_)
              obtain ⟨x11, ex11⟩ : ∃ y : Int32, y = l7_5 + 1 := ⟨_, rfl⟩
              have h := g_nm ex11 h
              refine lv_iinc (v := x11) (lv' := [(5, .int x11), (4, .int 1), (3, .int x6), (0, .ref (G.2.2.1 101)), (1, .int a1), (2, .int a2)]) hx hb dX10_goesBy_125 hl (k := 1) rfl (by rw [ex11]; rfl) (by decide) rfl (fun ls hl => ?_)
              refine lv_goto (tgt := 74) hx hb dX10_goesBy_128 (by decide) ?_
              exact ihL7 _ _ _ _ _ _ h hP hS (lv_sub hl [0, 1, 2, 3, 4, 5] rfl)
            · have h := g_ift c10 h
              refine lv_aload_n hx hb dX10_goesBy_90 rfl (lv_at hl 3 rfl) ?_
              refine lv_iload hx hb dX10_goesBy_91 (lv_at hl 0 rfl) ?_
              refine lv_iconst (v := 4) hx hb dX10_goesBy_93 (by decide) ?_
              refine lv_iload_n hx hb dX10_goesBy_94 rfl (lv_at hl 2 rfl) ?_
              obtain ⟨r13, σ12, hcr13, h⟩ := g_bd h
              refine g_callV (As := [.int l7_5, .int 4, .int x6]) (n := 3) hx hb hml hown ht (c_X10_isForce l G _ _ _ _ hcr13) m_922 m_924 m_22 m_41 m_925 (by decide +kernel) (by decide) gE_101 rfl hE hP hS (fun _ h => h) (fun _ _ h => h) rfl hl.1 rfl (Nat.le_of_ble_eq_true rfl) dX10_goesBy_95 ⟨by decide, by decide⟩ ⟨Nat.zero_le _, Nat.zero_le _⟩ (fun H locs hP hS => ?_)
              refine lv_if_eq (tgt := 122) hx hb dX10_goesBy_98 (by decide) (fun c14 => ?_) (fun c14 => ?_)
              · have h := g_ift c14 h
                refine lv_iconst (v := 0) hx hb dX10_goesBy_122 (by decide) ?_
                refine lv_istore (lv' := [(4, .int 0), (5, .int l7_5), (3, .int x6), (0, .ref (G.2.2.1 101)), (1, .int a1), (2, .int a2)]) hx hb dX10_goesBy_123 hl (by decide) rfl (fun ls hl => ?_)
                obtain ⟨x15, ex15⟩ : ∃ y : Int32, y = l7_5 + 1 := ⟨_, rfl⟩
                have h := g_nm ex15 h
                refine lv_iinc (v := x15) (lv' := [(5, .int x15), (4, .int 0), (3, .int x6), (0, .ref (G.2.2.1 101)), (1, .int a1), (2, .int a2)]) hx hb dX10_goesBy_125 hl (k := 1) rfl (by rw [ex15]; rfl) (by decide) rfl (fun ls hl => ?_)
                refine lv_goto (tgt := 74) hx hb dX10_goesBy_128 (by decide) ?_
                exact ihL7 _ _ _ _ _ _ h hP hS (lv_sub hl [0, 1, 2, 3, 4, 5] rfl)
              · have h := g_iff c14 h
                refine lv_iload_n hx hb dX10_goesBy_101 rfl (lv_at hl 5 rfl) ?_
                refine lv_iload_n hx hb dX10_goesBy_102 rfl (lv_at hl 2 rfl) ?_
                refine lv_isub hx hb dX10_goesBy_103 ?_
                refine lv_aload_n hx hb dX10_goesBy_104 rfl (lv_at hl 3 rfl) ?_
                refine g_get hx hb ht hown hE hP (by decide) gE_101 uX10 rfl 0 (by decide) m_790 rfl rfl dX10_goesBy_105 ?_
                refine lv_sipush (v := 333) hx hb dX10_goesBy_108 (by decide) ?_
                refine lv_iload hx hb dX10_goesBy_111 (lv_at hl 0 rfl) ?_
                refine lv_iadd hx hb dX10_goesBy_113 ?_
                obtain ⟨i16, h⟩ := g_ix h
                refine g_iald hx hb hE hP (by decide) rfl (by decide) i16 dX10_goesBy_114 ?_
                refine lv_icmp_ge (tgt := 122) hx hb dX10_goesBy_115 (by decide) (fun c17 => ?_) (fun c17 => ?_)
                · have h := g_ift c17 h
                  refine lv_iconst (v := 0) hx hb dX10_goesBy_122 (by decide) ?_
                  refine lv_istore (lv' := [(4, .int 0), (5, .int l7_5), (3, .int x6), (0, .ref (G.2.2.1 101)), (1, .int a1), (2, .int a2)]) hx hb dX10_goesBy_123 hl (by decide) rfl (fun ls hl => ?_)
                  obtain ⟨x18, ex18⟩ : ∃ y : Int32, y = l7_5 + 1 := ⟨_, rfl⟩
                  have h := g_nm ex18 h
                  refine lv_iinc (v := x18) (lv' := [(5, .int x18), (4, .int 0), (3, .int x6), (0, .ref (G.2.2.1 101)), (1, .int a1), (2, .int a2)]) hx hb dX10_goesBy_125 hl (k := 1) rfl (by rw [ex18]; rfl) (by decide) rfl (fun ls hl => ?_)
                  refine lv_goto (tgt := 74) hx hb dX10_goesBy_128 (by decide) ?_
                  exact ihL7 _ _ _ _ _ _ h hP hS (lv_sub hl [0, 1, 2, 3, 4, 5] rfl)
                · have h := g_iff c17 h
                  refine lv_iconst (v := 1) hx hb dX10_goesBy_118 (by decide) ?_
                  refine lv_goto (tgt := 123) hx hb dX10_goesBy_119 (by decide) ?_
                  refine lv_istore (lv' := [(4, .int 1), (5, .int l7_5), (3, .int x6), (0, .ref (G.2.2.1 101)), (1, .int a1), (2, .int a2)]) hx hb dX10_goesBy_123 hl (by decide) rfl (fun ls hl => ?_)
                  obtain ⟨x19, ex19⟩ : ∃ y : Int32, y = l7_5 + 1 := ⟨_, rfl⟩
                  have h := g_nm ex19 h
                  refine lv_iinc (v := x19) (lv' := [(5, .int x19), (4, .int 1), (3, .int x6), (0, .ref (G.2.2.1 101)), (1, .int a1), (2, .int a2)]) hx hb dX10_goesBy_125 hl (k := 1) rfl (by rw [ex19]; rfl) (by decide) rfl (fun ls hl => ?_)
                  refine lv_goto (tgt := 74) hx hb dX10_goesBy_128 (by decide) ?_
                  exact ihL7 _ _ _ _ _ _ h hP hS (lv_sub hl [0, 1, 2, 3, 4, 5] rfl)
      refine LPL7 _ (fun z20 z21 σ22 H locs ls h hP hS hl => ?_) gFu _ _ _ _ _ _ h hP hS (lv_sub hl [0, 1, 2, 3, 4, 5] rfl)
      refine lv_iload_n hx hb dX10_goesBy_131 rfl (lv_at hl 5 rfl) ?_
      refine lv_iload_n hx hb dX10_goesBy_132 rfl (lv_at hl 2 rfl) ?_
      refine lv_icmp_lt (tgt := 145) hx hb dX10_goesBy_133 (by decide) (fun c23 => ?_) (fun c23 => ?_)
      · have h := g_ift c23 h
        refine lv_iconst (v := 0) hx hb dX10_goesBy_145 (by decide) ?_
        exact g_zret hx hb hr hlk hE hP hS (by decide) h dX10_goesBy_146
      · have h := g_iff c23 h
        refine lv_iload hx hb dX10_goesBy_136 (lv_at hl 1 rfl) ?_
        refine lv_if_eq (tgt := 145) hx hb dX10_goesBy_138 (by decide) (fun c24 => ?_) (fun c24 => ?_)
        · have h := g_ift c24 h
          refine lv_iconst (v := 0) hx hb dX10_goesBy_145 (by decide) ?_
          exact g_zret hx hb hr hlk hE hP hS (by decide) h dX10_goesBy_146
        · have h := g_iff c24 h
          refine lv_iconst (v := 1) hx hb dX10_goesBy_141 (by decide) ?_
          refine lv_goto (tgt := 146) hx hb dX10_goesBy_142 (by decide) ?_
          exact g_zret hx hb hr hlk hE hP hS (by decide) h dX10_goesBy_146
    · have h := g_ift c4 h
      refine lv_aload_n hx hb dX10_goesBy_27 rfl (lv_at hl 0 rfl) ?_
      refine g_get hx hb ht hown hE hP (by decide) gE_101 uX10 rfl 0 (by decide) m_790 rfl rfl dX10_goesBy_28 ?_
      refine lv_bipush (v := 89) hx hb dX10_goesBy_31 (by decide) ?_
      refine lv_iload_n hx hb dX10_goesBy_33 rfl (lv_at hl 1 rfl) ?_
      refine lv_iadd hx hb dX10_goesBy_34 ?_
      obtain ⟨i25, h⟩ := g_ix h
      refine g_iald hx hb hE hP (by decide) rfl (by decide) i25 dX10_goesBy_35 ?_
      refine lv_topi (fun x26 ex26 => ?_)
      have h := g_nm ex26 h
      refine lv_istore_n (lv' := [(3, .int x26), (0, .ref (G.2.2.1 101)), (1, .int a1), (2, .int a2)]) hx hb dX10_goesBy_36 rfl hl (by decide) rfl (fun ls hl => ?_)
      refine lv_iload_n hx hb dX10_goesBy_37 rfl (lv_at hl 0 rfl) ?_
      refine lv_iload_n hx hb dX10_goesBy_38 rfl (lv_at hl 3 rfl) ?_
      refine lv_icmp_gt (tgt := 56) hx hb dX10_goesBy_39 (by decide) (fun c27 => ?_) (fun c27 => ?_)
      · have h := g_ift c27 h
        refine lv_iconst (v := 0) hx hb dX10_goesBy_56 (by decide) ?_
        exact g_zret hx hb hr hlk hE hP hS (by decide) h dX10_goesBy_57
      · have h := g_iff c27 h
        refine lv_aload_n hx hb dX10_goesBy_42 rfl (lv_at hl 1 rfl) ?_
        refine lv_iconst (v := 3) hx hb dX10_goesBy_43 (by decide) ?_
        refine lv_iload_n hx hb dX10_goesBy_44 rfl (lv_at hl 0 rfl) ?_
        refine lv_iconst (v := 0) hx hb dX10_goesBy_45 (by decide) ?_
        obtain ⟨r29, σ28, hcr29, h⟩ := g_bd h
        refine g_callV (As := [.int 3, .int x26, .int 0]) (n := 3) hx hb hml hown ht (c_X10_hasLaw l G _ _ _ _ hcr29) m_918 m_920 m_21 m_41 m_921 (by decide +kernel) (by decide) gE_101 rfl hE hP hS (fun _ h => h) (fun _ _ h => h) rfl hl.1 rfl (Nat.le_of_ble_eq_true rfl) dX10_goesBy_46 ⟨by decide, by decide⟩ ⟨Nat.zero_le _, Nat.zero_le _⟩ (fun H locs hP hS => ?_)
        refine lv_if_eq (tgt := 56) hx hb dX10_goesBy_49 (by decide) (fun c30 => ?_) (fun c30 => ?_)
        · have h := g_ift c30 h
          refine lv_iconst (v := 0) hx hb dX10_goesBy_56 (by decide) ?_
          exact g_zret hx hb hr hlk hE hP hS (by decide) h dX10_goesBy_57
        · have h := g_iff c30 h
          refine lv_iconst (v := 1) hx hb dX10_goesBy_52 (by decide) ?_
          refine lv_goto (tgt := 57) hx hb dX10_goesBy_53 (by decide) ?_
          exact g_zret hx hb hr hlk hE hP hS (by decide) h dX10_goesBy_57
  · have h := g_iff c2 h
    refine lv_iconst (v := 0) hx hb dX10_goesBy_12 (by decide) ?_
    exact g_zret hx hb hr hlk hE hP hS (by decide) h dX10_goesBy_13

def L3_X10_settlementOf (a1 a2 a3 : Int32) : Nat → Int32 → gSt → (Int32 → gSt → gO) → gO
  | 0, _, _, _ => none
  | nL3 + 1, l3_4, σL3, kL3 =>
    gIx 10 (l3_4 - 1) (gBd (M_X10_goesBy (σL3 107 (l3_4 - 1).toNatClampNeg) a2 σL3) (fun r6 σ5 => if r6 = 0 then (kL3 l3_4 σ5) else (gIx 10 (l3_4 - 1) (gIx 549 ((79 : Int32) + (σ5 107 (l3_4 - 1).toNatClampNeg)) (gIx 10 l3_4 (gNm (gUp σ5 107 l3_4.toNatClampNeg (σ5 102 ((79 : Int32) + (σ5 107 (l3_4 - 1).toNatClampNeg)).toNatClampNeg)) (fun σ11 => gNm (l3_4 + 1 : Int32) (fun x12 => L3_X10_settlementOf a1 a2 a3 nL3 x12 σ11 kL3))))))))
def L17_X10_settlementOf (z13 a1 a2 a3 : Int32) : Nat → Int32 → Int32 → gSt → (Int32 → Int32 → gSt → gO) → gO
  | 0, _, _, _, _ => none
  | nL17 + 1, l17_6, l17_5, σL17, kL17 =>
    if l17_6 < 0 then (kL17 l17_6 l17_5 σL17) else (if 0 ≤ l17_5 then (kL17 l17_6 l17_5 σL17) else (gIx 10 l17_6 (gBd (M_X10_ownOf (σL17 107 l17_6.toNatClampNeg) a2 a3 σL17) (fun r22 σ21 => if 0 ≤ r22 then (gIx 10 l17_6 (gNm (gUp σ21 101 9 (σ21 107 l17_6.toNatClampNeg)) (fun σ25 => gNm (l17_6 + (-1) : Int32) (fun x26 => L17_X10_settlementOf z13 a1 a2 a3 nL17 x26 r22 σ25 kL17)))) else (gNm (gUp σ21 101 9 a1) (fun σ27 => gNm (l17_6 + (-1) : Int32) (fun x28 => L17_X10_settlementOf z13 a1 a2 a3 nL17 x28 r22 σ27 kL17)))))))
def M_X10_settlementOf (a1 a2 a3 : Int32) (σ : gSt) : gO :=
  gIx 10 0 (gNm (gUp σ 107 (0 : Int32).toNatClampNeg a1) (fun σ2 => L3_X10_settlementOf a1 a2 a3 gFu 1 σ2 (fun z13 σ14 => gNm (gUp σ14 101 9 a1) (fun σ15 => gNm ((z13 - 1) : Int32) (fun x16 => L17_X10_settlementOf z13 a1 a2 a3 gFu x16 (-1) σ15 (fun z29 z30 σ31 => some (z30, σ31)))))))
set_option maxHeartbeats 4000000 in
set_option maxRecDepth 100000 in
theorem c_X10_settlementOf (l : Launch) (G : gPar) (a1 a2 a3 : Int32) (σ : gSt) {r : Int32} {σ' : gSt} (h : M_X10_settlementOf a1 a2 a3 σ = some (r, σ')) : gC l G yX10_settlementOf cX10_settlementOf 7 (some .int) 3 78 [.ref (G.2.2.1 101), .int a1, .int a2, .int a3] σ r σ' := by
  refine gC_of (by decide) (Nat.le_of_ble_eq_true rfl) ?_
  intro p e s m below meth c hx hb hr ht hown hlk hml hE hP ls hl
  have hS : va_S (gA G) s.heap s.heap [] := va_S.rf
  have hl : lv_has ls 7 [(0, .ref (G.2.2.1 101)), (1, .int a1), (2, .int a2), (3, .int a3)] := hl
  unfold M_X10_settlementOf at h
  refine lv_iconst (v := 1) hx hb dX10_settlementOf_0 (by decide) ?_
  refine lv_istore (lv' := [(4, .int 1), (0, .ref (G.2.2.1 101)), (1, .int a1), (2, .int a2), (3, .int a3)]) hx hb dX10_settlementOf_1 hl (by decide) rfl (fun ls hl => ?_)
  refine lv_aload_n hx hb dX10_settlementOf_3 rfl (lv_at hl 1 rfl) ?_
  refine g_get hx hb ht hown hE hP (by decide) gE_101 uX10 rfl 8 (by decide) m_798 rfl rfl dX10_settlementOf_4 ?_
  refine lv_iconst (v := 0) hx hb dX10_settlementOf_7 (by decide) ?_
  refine lv_iload_n hx hb dX10_settlementOf_8 rfl (lv_at hl 2 rfl) ?_
  obtain ⟨i1, h⟩ := g_ix h
  refine g_iast hx hb hE hP hS (by decide) rfl (by decide) i1 dX10_settlementOf_9 (fun H locs σ2 eσ2 hP hS => ?_)
  have h := g_nm eσ2 h
  have LPL3 : ∀ (kL3 : Int32 → gSt → gO), (∀ (l3_4 : Int32) (σL3 : gSt) (H : Heap) (locs : List Loc) (ls : Array Slot), kL3 l3_4 σL3 = some (r, σ') → gW G σL3 H → va_S (gA G) s.heap H locs → lv_has ls 7 [(4, .int l3_4), (0, .ref (G.2.2.1 101)), (1, .int a1), (2, .int a2), (3, .int a3)] → W p l e (gRm 3 78) s m ([.ref (G.2.2.1 101), .int a1, .int a2, .int a3].toArray) below meth c H locs 0 0 (MQ below (gQ G r σ') ([.ref (G.2.2.1 101), .int a1, .int a2, .int a3].toArray) s 0 0 (gA G)) (F0 m 57 ls [])) → ∀ (nL3 : Nat) (l3_4 : Int32) (σL3 : gSt) (H : Heap) (locs : List Loc) (ls : Array Slot), L3_X10_settlementOf a1 a2 a3 nL3 l3_4 σL3 kL3 = some (r, σ') → gW G σL3 H → va_S (gA G) s.heap H locs → lv_has ls 7 [(4, .int l3_4), (0, .ref (G.2.2.1 101)), (1, .int a1), (2, .int a2), (3, .int a3)] → W p l e (gRm 3 78) s m ([.ref (G.2.2.1 101), .int a1, .int a2, .int a3].toArray) below meth c H locs 0 0 (MQ below (gQ G r σ') ([.ref (G.2.2.1 101), .int a1, .int a2, .int a3].toArray) s 0 0 (gA G)) (F0 m 10 ls []) := by
    intro kL3 hKL3 nL3
    induction nL3 with
    | zero =>
      intro l3_4 σL3 H locs ls h
      cases h
    | succ nL3 ihL3 =>
      intro l3_4 σL3 H locs ls h hP hS hl
      rw [L3_X10_settlementOf] at h
      refine lv_aload_n hx hb dX10_settlementOf_10 rfl (lv_at hl 1 rfl) ?_
      refine lv_aload_n hx hb dX10_settlementOf_11 rfl (lv_at hl 1 rfl) ?_
      refine g_get hx hb ht hown hE hP (by decide) gE_101 uX10 rfl 8 (by decide) m_798 rfl rfl dX10_settlementOf_12 ?_
      refine lv_iload hx hb dX10_settlementOf_15 (lv_at hl 0 rfl) ?_
      refine lv_iconst (v := 1) hx hb dX10_settlementOf_17 (by decide) ?_
      refine lv_isub hx hb dX10_settlementOf_18 ?_
      obtain ⟨i4, h⟩ := g_ix h
      refine g_iald hx hb hE hP (by decide) rfl (by decide) i4 dX10_settlementOf_19 ?_
      refine lv_iload_n hx hb dX10_settlementOf_20 rfl (lv_at hl 3 rfl) ?_
      obtain ⟨r6, σ5, hcr6, h⟩ := g_bd h
      refine g_callV (As := [.int (σL3 107 (l3_4 - 1).toNatClampNeg), .int a2]) (n := 2) hx hb hml hown ht (c_X10_goesBy l G _ _ _ hcr6) m_934 m_936 m_24 m_41 m_937 (by decide +kernel) (by decide) gE_101 rfl hE hP hS (fun _ h => h) (fun _ _ h => h) rfl hl.1 rfl (Nat.le_of_ble_eq_true rfl) dX10_settlementOf_21 ⟨by decide, by decide⟩ ⟨Nat.zero_le _, Nat.zero_le _⟩ (fun H locs hP hS => ?_)
      refine lv_if_eq (tgt := 57) hx hb dX10_settlementOf_24 (by decide) (fun c7 => ?_) (fun c7 => ?_)
      · have h := g_ift c7 h
        exact hKL3 _ _ _ _ _ h hP hS (lv_sub hl [0, 1, 2, 3, 4] rfl)
      · have h := g_iff c7 h
        refine lv_aload_n hx hb dX10_settlementOf_27 rfl (lv_at hl 1 rfl) ?_
        refine g_get hx hb ht hown hE hP (by decide) gE_101 uX10 rfl 8 (by decide) m_798 rfl rfl dX10_settlementOf_28 ?_
        refine lv_iload hx hb dX10_settlementOf_31 (lv_at hl 0 rfl) ?_
        refine lv_aload_n hx hb dX10_settlementOf_33 rfl (lv_at hl 1 rfl) ?_
        refine g_get hx hb ht hown hE hP (by decide) gE_101 uX10 rfl 0 (by decide) m_790 rfl rfl dX10_settlementOf_34 ?_
        refine lv_bipush (v := 79) hx hb dX10_settlementOf_37 (by decide) ?_
        refine lv_aload_n hx hb dX10_settlementOf_39 rfl (lv_at hl 1 rfl) ?_
        refine g_get hx hb ht hown hE hP (by decide) gE_101 uX10 rfl 8 (by decide) m_798 rfl rfl dX10_settlementOf_40 ?_
        refine lv_iload hx hb dX10_settlementOf_43 (lv_at hl 0 rfl) ?_
        refine lv_iconst (v := 1) hx hb dX10_settlementOf_45 (by decide) ?_
        refine lv_isub hx hb dX10_settlementOf_46 ?_
        obtain ⟨i8, h⟩ := g_ix h
        refine g_iald hx hb hE hP (by decide) rfl (by decide) i8 dX10_settlementOf_47 ?_
        refine lv_iadd hx hb dX10_settlementOf_48 ?_
        obtain ⟨i9, h⟩ := g_ix h
        refine g_iald hx hb hE hP (by decide) rfl (by decide) i9 dX10_settlementOf_49 ?_
        obtain ⟨i10, h⟩ := g_ix h
        refine g_iast hx hb hE hP hS (by decide) rfl (by decide) i10 dX10_settlementOf_50 (fun H locs σ11 eσ11 hP hS => ?_)
        have h := g_nm eσ11 h
        obtain ⟨x12, ex12⟩ : ∃ y : Int32, y = l3_4 + 1 := ⟨_, rfl⟩
        have h := g_nm ex12 h
        refine lv_iinc (v := x12) (lv' := [(4, .int x12), (0, .ref (G.2.2.1 101)), (1, .int a1), (2, .int a2), (3, .int a3)]) hx hb dX10_settlementOf_51 hl (k := 0) rfl (by rw [ex12]; rfl) (by decide) rfl (fun ls hl => ?_)
        refine lv_goto (tgt := 10) hx hb dX10_settlementOf_54 (by decide) ?_
        exact ihL3 _ _ _ _ _ h hP hS (lv_sub hl [0, 1, 2, 3, 4] rfl)
  refine LPL3 _ (fun z13 σ14 H locs ls h hP hS hl => ?_) gFu _ _ _ _ _ h hP hS (lv_sub hl [0, 1, 2, 3, 4] rfl)
  refine lv_iconst (v := (-1)) hx hb dX10_settlementOf_57 (by decide) ?_
  refine lv_istore (lv' := [(5, .int (-1)), (4, .int z13), (0, .ref (G.2.2.1 101)), (1, .int a1), (2, .int a2), (3, .int a3)]) hx hb dX10_settlementOf_58 hl (by decide) rfl (fun ls hl => ?_)
  refine lv_aload_n hx hb dX10_settlementOf_60 rfl (lv_at hl 2 rfl) ?_
  refine lv_iload_n hx hb dX10_settlementOf_61 rfl (lv_at hl 3 rfl) ?_
  refine g_put hx hb ht hown hE hP hS (by decide) gE_101 uX10 tyX10_ok nmX10 rfl 9 (by decide) m_799 rfl rfl rfl rfl rfl (Nat.le_of_ble_eq_true rfl) rfl dX10_settlementOf_62 (fun H locs σ15 eσ15 hP hS => ?_)
  have h := g_nm eσ15 h
  refine lv_iload hx hb dX10_settlementOf_65 (lv_at hl 1 rfl) ?_
  refine lv_iconst (v := 1) hx hb dX10_settlementOf_67 (by decide) ?_
  refine lv_isub hx hb dX10_settlementOf_68 ?_
  refine lv_topi (fun x16 ex16 => ?_)
  have h := g_nm ex16 h
  refine lv_istore (lv' := [(6, .int x16), (5, .int (-1)), (4, .int z13), (0, .ref (G.2.2.1 101)), (1, .int a1), (2, .int a2), (3, .int a3)]) hx hb dX10_settlementOf_69 hl (by decide) rfl (fun ls hl => ?_)
  have LPL17 : ∀ (kL17 : Int32 → Int32 → gSt → gO), (∀ (l17_6 l17_5 : Int32) (σL17 : gSt) (H : Heap) (locs : List Loc) (ls : Array Slot), kL17 l17_6 l17_5 σL17 = some (r, σ') → gW G σL17 H → va_S (gA G) s.heap H locs → lv_has ls 7 [(6, .int l17_6), (5, .int l17_5), (4, .int z13), (0, .ref (G.2.2.1 101)), (1, .int a1), (2, .int a2), (3, .int a3)] → W p l e (gRm 3 78) s m ([.ref (G.2.2.1 101), .int a1, .int a2, .int a3].toArray) below meth c H locs 0 0 (MQ below (gQ G r σ') ([.ref (G.2.2.1 101), .int a1, .int a2, .int a3].toArray) s 0 0 (gA G)) (F0 m 122 ls [])) → ∀ (nL17 : Nat) (l17_6 l17_5 : Int32) (σL17 : gSt) (H : Heap) (locs : List Loc) (ls : Array Slot), L17_X10_settlementOf z13 a1 a2 a3 nL17 l17_6 l17_5 σL17 kL17 = some (r, σ') → gW G σL17 H → va_S (gA G) s.heap H locs → lv_has ls 7 [(6, .int l17_6), (5, .int l17_5), (4, .int z13), (0, .ref (G.2.2.1 101)), (1, .int a1), (2, .int a2), (3, .int a3)] → W p l e (gRm 3 78) s m ([.ref (G.2.2.1 101), .int a1, .int a2, .int a3].toArray) below meth c H locs 0 0 (MQ below (gQ G r σ') ([.ref (G.2.2.1 101), .int a1, .int a2, .int a3].toArray) s 0 0 (gA G)) (F0 m 71 ls []) := by
    intro kL17 hKL17 nL17
    induction nL17 with
    | zero =>
      intro l17_6 l17_5 σL17 H locs ls h
      cases h
    | succ nL17 ihL17 =>
      intro l17_6 l17_5 σL17 H locs ls h hP hS hl
      rw [L17_X10_settlementOf] at h
      refine lv_iload hx hb dX10_settlementOf_71 (lv_at hl 0 rfl) ?_
      refine lv_if_lt (tgt := 122) hx hb dX10_settlementOf_73 (by decide) (fun c18 => ?_) (fun c18 => ?_)
      · have h := g_ift c18 h
        exact hKL17 _ _ _ _ _ _ h hP hS (lv_sub hl [0, 1, 2, 3, 4, 5, 6] rfl)
      · have h := g_iff c18 h
        refine lv_iload hx hb dX10_settlementOf_76 (lv_at hl 1 rfl) ?_
        refine lv_if_ge (tgt := 122) hx hb dX10_settlementOf_78 (by decide) (fun c19 => ?_) (fun c19 => ?_)
        · have h := g_ift c19 h
          exact hKL17 _ _ _ _ _ _ h hP hS (lv_sub hl [0, 1, 2, 3, 4, 5, 6] rfl)
        · have h := g_iff c19 h
          refine lv_aload_n hx hb dX10_settlementOf_81 rfl (lv_at hl 3 rfl) ?_
          refine lv_aload_n hx hb dX10_settlementOf_82 rfl (lv_at hl 3 rfl) ?_
          refine g_get hx hb ht hown hE hP (by decide) gE_101 uX10 rfl 8 (by decide) m_798 rfl rfl dX10_settlementOf_83 ?_
          refine lv_iload hx hb dX10_settlementOf_86 (lv_at hl 0 rfl) ?_
          obtain ⟨i20, h⟩ := g_ix h
          refine g_iald hx hb hE hP (by decide) rfl (by decide) i20 dX10_settlementOf_88 ?_
          refine lv_iload_n hx hb dX10_settlementOf_89 rfl (lv_at hl 5 rfl) ?_
          refine lv_iload_n hx hb dX10_settlementOf_90 rfl (lv_at hl 6 rfl) ?_
          obtain ⟨r22, σ21, hcr22, h⟩ := g_bd h
          refine g_callV (As := [.int (σL17 107 l17_6.toNatClampNeg), .int a2, .int a3]) (n := 3) hx hb hml hown ht (c_X10_ownOf l G _ _ _ _ hcr22) m_914 m_916 m_20 m_41 m_917 (by decide +kernel) (by decide) gE_101 rfl hE hP hS (fun _ h => h) (fun _ _ h => h) rfl hl.1 rfl (Nat.le_of_ble_eq_true rfl) dX10_settlementOf_91 ⟨by decide, by decide⟩ ⟨Nat.zero_le _, Nat.zero_le _⟩ (fun H locs hP hS => ?_)
          refine lv_istore (lv' := [(5, .int r22), (6, .int l17_6), (4, .int z13), (0, .ref (G.2.2.1 101)), (1, .int a1), (2, .int a2), (3, .int a3)]) hx hb dX10_settlementOf_94 hl (by decide) rfl (fun ls hl => ?_)
          refine lv_aload_n hx hb dX10_settlementOf_96 rfl (lv_at hl 3 rfl) ?_
          refine lv_iload hx hb dX10_settlementOf_97 (lv_at hl 0 rfl) ?_
          refine lv_if_ge (tgt := 106) hx hb dX10_settlementOf_99 (by decide) (fun c23 => ?_) (fun c23 => ?_)
          · have h := g_ift c23 h
            refine lv_aload_n hx hb dX10_settlementOf_106 rfl (lv_at hl 3 rfl) ?_
            refine g_get hx hb ht hown hE hP (by decide) gE_101 uX10 rfl 8 (by decide) m_798 rfl rfl dX10_settlementOf_107 ?_
            refine lv_iload hx hb dX10_settlementOf_110 (lv_at hl 1 rfl) ?_
            obtain ⟨i24, h⟩ := g_ix h
            refine g_iald hx hb hE hP (by decide) rfl (by decide) i24 dX10_settlementOf_112 ?_
            refine g_put hx hb ht hown hE hP hS (by decide) gE_101 uX10 tyX10_ok nmX10 rfl 9 (by decide) m_799 rfl rfl rfl rfl rfl (Nat.le_of_ble_eq_true rfl) rfl dX10_settlementOf_113 (fun H locs σ25 eσ25 hP hS => ?_)
            have h := g_nm eσ25 h
            obtain ⟨x26, ex26⟩ : ∃ y : Int32, y = l17_6 + (-1) := ⟨_, rfl⟩
            have h := g_nm ex26 h
            refine lv_iinc (v := x26) (lv' := [(6, .int x26), (5, .int r22), (4, .int z13), (0, .ref (G.2.2.1 101)), (1, .int a1), (2, .int a2), (3, .int a3)]) hx hb dX10_settlementOf_116 hl (k := 1) rfl (by rw [ex26]; rfl) (by decide) rfl (fun ls hl => ?_)
            refine lv_goto (tgt := 71) hx hb dX10_settlementOf_119 (by decide) ?_
            exact ihL17 _ _ _ _ _ _ h hP hS (lv_sub hl [0, 1, 2, 3, 4, 5, 6] rfl)
          · have h := g_iff c23 h
            refine lv_iload_n hx hb dX10_settlementOf_102 rfl (lv_at hl 4 rfl) ?_
            refine lv_goto (tgt := 113) hx hb dX10_settlementOf_103 (by decide) ?_
            refine g_put hx hb ht hown hE hP hS (by decide) gE_101 uX10 tyX10_ok nmX10 rfl 9 (by decide) m_799 rfl rfl rfl rfl rfl (Nat.le_of_ble_eq_true rfl) rfl dX10_settlementOf_113 (fun H locs σ27 eσ27 hP hS => ?_)
            have h := g_nm eσ27 h
            obtain ⟨x28, ex28⟩ : ∃ y : Int32, y = l17_6 + (-1) := ⟨_, rfl⟩
            have h := g_nm ex28 h
            refine lv_iinc (v := x28) (lv' := [(6, .int x28), (5, .int r22), (4, .int z13), (0, .ref (G.2.2.1 101)), (1, .int a1), (2, .int a2), (3, .int a3)]) hx hb dX10_settlementOf_116 hl (k := 1) rfl (by rw [ex28]; rfl) (by decide) rfl (fun ls hl => ?_)
            refine lv_goto (tgt := 71) hx hb dX10_settlementOf_119 (by decide) ?_
            exact ihL17 _ _ _ _ _ _ h hP hS (lv_sub hl [0, 1, 2, 3, 4, 5, 6] rfl)
  refine LPL17 _ (fun z29 z30 σ31 H locs ls h hP hS hl => ?_) gFu _ _ _ _ _ _ h hP hS (lv_sub hl [0, 1, 2, 3, 4, 5, 6] rfl)
  refine lv_iload hx hb dX10_settlementOf_122 (lv_at hl 1 rfl) ?_
  exact g_iret hx hb hr hlk hE hP hS h dX10_settlementOf_124

def M_X10_canAsk (a1 a2 a3 : Int32) (σ : gSt) : gO :=
  gBd (M_X10_isPerson a1 σ) (fun r2 σ1 => if r2 = 0 then (some (0, σ1)) else (gBd (M_X10_isDay a2 σ1) (fun r5 σ4 => if r5 = 0 then (some (0, σ4)) else (gBd (M_X10_isDay a3 σ4) (fun r8 σ7 => if r8 = 0 then (some (0, σ7)) else (some (1, σ7)))))))
set_option maxHeartbeats 4000000 in
set_option maxRecDepth 100000 in
theorem c_X10_canAsk (l : Launch) (G : gPar) (a1 a2 a3 : Int32) (σ : gSt) {r : Int32} {σ' : gSt} (h : M_X10_canAsk a1 a2 a3 σ = some (r, σ')) : gC l G yX10_canAsk cX10_canAsk 4 (some .boolean) 2 43 [.ref (G.2.2.1 101), .int a1, .int a2, .int a3] σ r σ' := by
  refine gC_of (by decide) (Nat.le_of_ble_eq_true rfl) ?_
  intro p e s m below meth c hx hb hr ht hown hlk hml hE hP ls hl
  have hS : va_S (gA G) s.heap s.heap [] := va_S.rf
  have hl : lv_has ls 4 [(0, .ref (G.2.2.1 101)), (1, .int a1), (2, .int a2), (3, .int a3)] := hl
  unfold M_X10_canAsk at h
  refine lv_aload_n hx hb dX10_canAsk_0 rfl (lv_at hl 0 rfl) ?_
  refine lv_iload_n hx hb dX10_canAsk_1 rfl (lv_at hl 1 rfl) ?_
  obtain ⟨r2, σ1, hcr2, h⟩ := g_bd h
  refine g_callV (As := [.int a1]) (n := 1) hx hb hml hown ht (c_X10_isPerson l G _ _ hcr2) m_863 m_865 m_16 m_41 m_866 (by decide +kernel) (by decide) gE_101 rfl hE hP hS (fun _ h => h) (fun _ _ h => h) rfl hl.1 rfl (Nat.le_of_ble_eq_true rfl) dX10_canAsk_2 ⟨by decide, by decide⟩ ⟨Nat.zero_le _, Nat.zero_le _⟩ (fun H locs hP hS => ?_)
  refine lv_if_eq (tgt := 26) hx hb dX10_canAsk_5 (by decide) (fun c3 => ?_) (fun c3 => ?_)
  · have h := g_ift c3 h
    refine lv_iconst (v := 0) hx hb dX10_canAsk_26 (by decide) ?_
    exact g_zret hx hb hr hlk hE hP hS (by decide) h dX10_canAsk_27
  · have h := g_iff c3 h
    refine lv_iload_n hx hb dX10_canAsk_8 rfl (lv_at hl 2 rfl) ?_
    obtain ⟨r5, σ4, hcr5, h⟩ := g_bd h
    refine g_callS (As := [.int a2]) (n := 1) hx hb hml hown ht (c_X10_isDay l G _ _ hcr5) m_856 m_857 m_41 m_858 (by decide +kernel) hE hP hS (fun _ h => h) (fun _ _ h => h) rfl hl.1 rfl (Nat.le_of_ble_eq_true rfl) dX10_canAsk_9 ⟨by decide, by decide⟩ ⟨Nat.zero_le _, Nat.zero_le _⟩ (fun H locs hP hS => ?_)
    refine lv_if_eq (tgt := 26) hx hb dX10_canAsk_12 (by decide) (fun c6 => ?_) (fun c6 => ?_)
    · have h := g_ift c6 h
      refine lv_iconst (v := 0) hx hb dX10_canAsk_26 (by decide) ?_
      exact g_zret hx hb hr hlk hE hP hS (by decide) h dX10_canAsk_27
    · have h := g_iff c6 h
      refine lv_iload_n hx hb dX10_canAsk_15 rfl (lv_at hl 3 rfl) ?_
      obtain ⟨r8, σ7, hcr8, h⟩ := g_bd h
      refine g_callS (As := [.int a3]) (n := 1) hx hb hml hown ht (c_X10_isDay l G _ _ hcr8) m_856 m_857 m_41 m_858 (by decide +kernel) hE hP hS (fun _ h => h) (fun _ _ h => h) rfl hl.1 rfl (Nat.le_of_ble_eq_true rfl) dX10_canAsk_16 ⟨by decide, by decide⟩ ⟨Nat.zero_le _, Nat.zero_le _⟩ (fun H locs hP hS => ?_)
      refine lv_if_eq (tgt := 26) hx hb dX10_canAsk_19 (by decide) (fun c9 => ?_) (fun c9 => ?_)
      · have h := g_ift c9 h
        refine lv_iconst (v := 0) hx hb dX10_canAsk_26 (by decide) ?_
        exact g_zret hx hb hr hlk hE hP hS (by decide) h dX10_canAsk_27
      · have h := g_iff c9 h
        refine lv_iconst (v := 1) hx hb dX10_canAsk_22 (by decide) ?_
        refine lv_goto (tgt := 27) hx hb dX10_canAsk_23 (by decide) ?_
        exact g_zret hx hb hr hlk hE hP hS (by decide) h dX10_canAsk_27

def M_X10_own (a1 a2 a3 : Int32) (σ : gSt) : gO :=
  gBd (M_X10_canAsk a1 a2 a3 σ) (fun r2 σ1 => if r2 = 0 then (gBd (M_X10_finding (-100001) σ1) (fun r11 σ10 => some (r11, σ10))) else (gNm (gUp σ1 101 7 0) (fun σ4 => gBd (M_X10_ownOf a1 a2 a3 σ4) (fun r6 σ5 => if 0 ≤ r6 then (some (r6, σ5)) else (gBd (M_X10_finding (-100006) σ5) (fun r9 σ8 => some (r9, σ8)))))))
set_option maxHeartbeats 4000000 in
set_option maxRecDepth 100000 in
theorem c_X10_own (l : Launch) (G : gPar) (a1 a2 a3 : Int32) (σ : gSt) {r : Int32} {σ' : gSt} (h : M_X10_own a1 a2 a3 σ = some (r, σ')) : gC l G yX10_own cX10_own 5 (some .int) 3 78 [.ref (G.2.2.1 101), .int a1, .int a2, .int a3] σ r σ' := by
  refine gC_of (by decide) (Nat.le_of_ble_eq_true rfl) ?_
  intro p e s m below meth c hx hb hr ht hown hlk hml hE hP ls hl
  have hS : va_S (gA G) s.heap s.heap [] := va_S.rf
  have hl : lv_has ls 5 [(0, .ref (G.2.2.1 101)), (1, .int a1), (2, .int a2), (3, .int a3)] := hl
  unfold M_X10_own at h
  refine lv_aload_n hx hb dX10_own_0 rfl (lv_at hl 0 rfl) ?_
  refine lv_iload_n hx hb dX10_own_1 rfl (lv_at hl 1 rfl) ?_
  refine lv_iload_n hx hb dX10_own_2 rfl (lv_at hl 2 rfl) ?_
  refine lv_iload_n hx hb dX10_own_3 rfl (lv_at hl 3 rfl) ?_
  obtain ⟨r2, σ1, hcr2, h⟩ := g_bd h
  refine g_callV (As := [.int a1, .int a2, .int a3]) (n := 3) hx hb hml hown ht (c_X10_canAsk l G _ _ _ _ hcr2) m_910 m_912 m_19 m_41 m_913 (by decide +kernel) (by decide) gE_101 rfl hE hP hS (fun _ h => h) (fun _ _ h => h) rfl hl.1 rfl (Nat.le_of_ble_eq_true rfl) dX10_own_4 ⟨by decide, by decide⟩ ⟨Nat.zero_le _, Nat.zero_le _⟩ (fun H locs hP hS => ?_)
  refine lv_if_ne (tgt := 17) hx hb dX10_own_7 (by decide) (fun c3 => ?_) (fun c3 => ?_)
  · have h := g_iff c3 h
    refine lv_aload_n hx hb dX10_own_17 rfl (lv_at hl 0 rfl) ?_
    refine lv_iconst (v := 0) hx hb dX10_own_18 (by decide) ?_
    refine g_put hx hb ht hown hE hP hS (by decide) gE_101 uX10 tyX10_ok nmX10 rfl 7 (by decide) m_797 rfl rfl rfl rfl rfl (Nat.le_of_ble_eq_true rfl) rfl dX10_own_19 (fun H locs σ4 eσ4 hP hS => ?_)
    have h := g_nm eσ4 h
    refine lv_aload_n hx hb dX10_own_22 rfl (lv_at hl 0 rfl) ?_
    refine lv_iload_n hx hb dX10_own_23 rfl (lv_at hl 1 rfl) ?_
    refine lv_iload_n hx hb dX10_own_24 rfl (lv_at hl 2 rfl) ?_
    refine lv_iload_n hx hb dX10_own_25 rfl (lv_at hl 3 rfl) ?_
    obtain ⟨r6, σ5, hcr6, h⟩ := g_bd h
    refine g_callV (As := [.int a1, .int a2, .int a3]) (n := 3) hx hb hml hown ht (c_X10_ownOf l G _ _ _ _ hcr6) m_914 m_916 m_20 m_41 m_917 (by decide +kernel) (by decide) gE_101 rfl hE hP hS (fun _ h => h) (fun _ _ h => h) rfl hl.1 rfl (Nat.le_of_ble_eq_true rfl) dX10_own_26 ⟨by decide, by decide⟩ ⟨Nat.zero_le _, Nat.zero_le _⟩ (fun H locs hP hS => ?_)
    refine lv_istore (lv' := [(4, .int r6), (0, .ref (G.2.2.1 101)), (1, .int a1), (2, .int a2), (3, .int a3)]) hx hb dX10_own_29 hl (by decide) rfl (fun ls hl => ?_)
    refine lv_iload hx hb dX10_own_31 (lv_at hl 0 rfl) ?_
    refine lv_if_ge (tgt := 45) hx hb dX10_own_33 (by decide) (fun c7 => ?_) (fun c7 => ?_)
    · have h := g_ift c7 h
      refine lv_iload hx hb dX10_own_45 (lv_at hl 0 rfl) ?_
      exact g_iret hx hb hr hlk hE hP hS h dX10_own_47
    · have h := g_iff c7 h
      refine lv_aload_n hx hb dX10_own_36 rfl (lv_at hl 1 rfl) ?_
      refine lv_ldc hx hb hown (ht _ m_897) dX10_own_37 ?_
      obtain ⟨r9, σ8, hcr9, h⟩ := g_bd h
      refine g_callV (As := [.int (-100006)]) (n := 1) hx hb hml hown ht (c_X10_finding l G _ _ hcr9) m_838 m_840 m_14 m_41 m_841 (by decide +kernel) (by decide) gE_101 rfl hE hP hS (fun _ h => h) (fun _ _ h => h) rfl hl.1 rfl (Nat.le_of_ble_eq_true rfl) dX10_own_39 ⟨by decide, by decide⟩ ⟨Nat.zero_le _, Nat.zero_le _⟩ (fun H locs hP hS => ?_)
      refine lv_goto (tgt := 47) hx hb dX10_own_42 (by decide) ?_
      exact g_iret hx hb hr hlk hE hP hS h dX10_own_47
  · have h := g_ift c3 h
    refine lv_aload_n hx hb dX10_own_10 rfl (lv_at hl 0 rfl) ?_
    refine lv_ldc hx hb hown (ht _ m_837) dX10_own_11 ?_
    obtain ⟨r11, σ10, hcr11, h⟩ := g_bd h
    refine g_callV (As := [.int (-100001)]) (n := 1) hx hb hml hown ht (c_X10_finding l G _ _ hcr11) m_838 m_840 m_14 m_41 m_841 (by decide +kernel) (by decide) gE_101 rfl hE hP hS (fun _ h => h) (fun _ _ h => h) rfl hl.1 rfl (Nat.le_of_ble_eq_true rfl) dX10_own_13 ⟨by decide, by decide⟩ ⟨Nat.zero_le _, Nat.zero_le _⟩ (fun H locs hP hS => ?_)
    exact g_iret hx hb hr hlk hE hP hS h dX10_own_16

def M_X10_settlement (a1 a2 a3 : Int32) (σ : gSt) : gO :=
  gBd (M_X10_canAsk a1 a2 a3 σ) (fun r2 σ1 => if r2 = 0 then (gBd (M_X10_finding (-100001) σ1) (fun r11 σ10 => some (r11, σ10))) else (gNm (gUp σ1 101 7 0) (fun σ4 => gBd (M_X10_settlementOf a1 a2 a3 σ4) (fun r6 σ5 => if 0 ≤ r6 then (some (r6, σ5)) else (gBd (M_X10_finding (-100006) σ5) (fun r9 σ8 => some (r9, σ8)))))))
set_option maxHeartbeats 4000000 in
set_option maxRecDepth 100000 in
theorem c_X10_settlement (l : Launch) (G : gPar) (a1 a2 a3 : Int32) (σ : gSt) {r : Int32} {σ' : gSt} (h : M_X10_settlement a1 a2 a3 σ = some (r, σ')) : gC l G yX10_settlement cX10_settlement 5 (some .int) 4 104 [.ref (G.2.2.1 101), .int a1, .int a2, .int a3] σ r σ' := by
  refine gC_of (by decide) (Nat.le_of_ble_eq_true rfl) ?_
  intro p e s m below meth c hx hb hr ht hown hlk hml hE hP ls hl
  have hS : va_S (gA G) s.heap s.heap [] := va_S.rf
  have hl : lv_has ls 5 [(0, .ref (G.2.2.1 101)), (1, .int a1), (2, .int a2), (3, .int a3)] := hl
  unfold M_X10_settlement at h
  refine lv_aload_n hx hb dX10_settlement_0 rfl (lv_at hl 0 rfl) ?_
  refine lv_iload_n hx hb dX10_settlement_1 rfl (lv_at hl 1 rfl) ?_
  refine lv_iload_n hx hb dX10_settlement_2 rfl (lv_at hl 2 rfl) ?_
  refine lv_iload_n hx hb dX10_settlement_3 rfl (lv_at hl 3 rfl) ?_
  obtain ⟨r2, σ1, hcr2, h⟩ := g_bd h
  refine g_callV (As := [.int a1, .int a2, .int a3]) (n := 3) hx hb hml hown ht (c_X10_canAsk l G _ _ _ _ hcr2) m_910 m_912 m_19 m_41 m_913 (by decide +kernel) (by decide) gE_101 rfl hE hP hS (fun _ h => h) (fun _ _ h => h) rfl hl.1 rfl (Nat.le_of_ble_eq_true rfl) dX10_settlement_4 ⟨by decide, by decide⟩ ⟨Nat.zero_le _, Nat.zero_le _⟩ (fun H locs hP hS => ?_)
  refine lv_if_ne (tgt := 17) hx hb dX10_settlement_7 (by decide) (fun c3 => ?_) (fun c3 => ?_)
  · have h := g_iff c3 h
    refine lv_aload_n hx hb dX10_settlement_17 rfl (lv_at hl 0 rfl) ?_
    refine lv_iconst (v := 0) hx hb dX10_settlement_18 (by decide) ?_
    refine g_put hx hb ht hown hE hP hS (by decide) gE_101 uX10 tyX10_ok nmX10 rfl 7 (by decide) m_797 rfl rfl rfl rfl rfl (Nat.le_of_ble_eq_true rfl) rfl dX10_settlement_19 (fun H locs σ4 eσ4 hP hS => ?_)
    have h := g_nm eσ4 h
    refine lv_aload_n hx hb dX10_settlement_22 rfl (lv_at hl 0 rfl) ?_
    refine lv_iload_n hx hb dX10_settlement_23 rfl (lv_at hl 1 rfl) ?_
    refine lv_iload_n hx hb dX10_settlement_24 rfl (lv_at hl 2 rfl) ?_
    refine lv_iload_n hx hb dX10_settlement_25 rfl (lv_at hl 3 rfl) ?_
    obtain ⟨r6, σ5, hcr6, h⟩ := g_bd h
    refine g_callV (As := [.int a1, .int a2, .int a3]) (n := 3) hx hb hml hown ht (c_X10_settlementOf l G _ _ _ _ hcr6) m_930 m_932 m_23 m_41 m_933 (by decide +kernel) (by decide) gE_101 rfl hE hP hS (fun _ h => h) (fun _ _ h => h) rfl hl.1 rfl (Nat.le_of_ble_eq_true rfl) dX10_settlement_26 ⟨by decide, by decide⟩ ⟨Nat.zero_le _, Nat.zero_le _⟩ (fun H locs hP hS => ?_)
    refine lv_istore (lv' := [(4, .int r6), (0, .ref (G.2.2.1 101)), (1, .int a1), (2, .int a2), (3, .int a3)]) hx hb dX10_settlement_29 hl (by decide) rfl (fun ls hl => ?_)
    refine lv_iload hx hb dX10_settlement_31 (lv_at hl 0 rfl) ?_
    refine lv_if_ge (tgt := 45) hx hb dX10_settlement_33 (by decide) (fun c7 => ?_) (fun c7 => ?_)
    · have h := g_ift c7 h
      refine lv_iload hx hb dX10_settlement_45 (lv_at hl 0 rfl) ?_
      exact g_iret hx hb hr hlk hE hP hS h dX10_settlement_47
    · have h := g_iff c7 h
      refine lv_aload_n hx hb dX10_settlement_36 rfl (lv_at hl 1 rfl) ?_
      refine lv_ldc hx hb hown (ht _ m_897) dX10_settlement_37 ?_
      obtain ⟨r9, σ8, hcr9, h⟩ := g_bd h
      refine g_callV (As := [.int (-100006)]) (n := 1) hx hb hml hown ht (c_X10_finding l G _ _ hcr9) m_838 m_840 m_14 m_41 m_841 (by decide +kernel) (by decide) gE_101 rfl hE hP hS (fun _ h => h) (fun _ _ h => h) rfl hl.1 rfl (Nat.le_of_ble_eq_true rfl) dX10_settlement_39 ⟨by decide, by decide⟩ ⟨Nat.zero_le _, Nat.zero_le _⟩ (fun H locs hP hS => ?_)
      refine lv_goto (tgt := 47) hx hb dX10_settlement_42 (by decide) ?_
      exact g_iret hx hb hr hlk hE hP hS h dX10_settlement_47
  · have h := g_ift c3 h
    refine lv_aload_n hx hb dX10_settlement_10 rfl (lv_at hl 0 rfl) ?_
    refine lv_ldc hx hb hown (ht _ m_837) dX10_settlement_11 ?_
    obtain ⟨r11, σ10, hcr11, h⟩ := g_bd h
    refine g_callV (As := [.int (-100001)]) (n := 1) hx hb hml hown ht (c_X10_finding l G _ _ hcr11) m_838 m_840 m_14 m_41 m_841 (by decide +kernel) (by decide) gE_101 rfl hE hP hS (fun _ h => h) (fun _ _ h => h) rfl hl.1 rfl (Nat.le_of_ble_eq_true rfl) dX10_settlement_13 ⟨by decide, by decide⟩ ⟨Nat.zero_le _, Nat.zero_le _⟩ (fun H locs hP hS => ?_)
    exact g_iret hx hb hr hlk hE hP hS h dX10_settlement_16

def M_X10_through (a1 a2 a3 : Int32) (σ : gSt) : gO :=
  gBd (M_X10_canAsk a1 a2 a3 σ) (fun r2 σ1 => if r2 = 0 then (gBd (M_X10_finding (-100001) σ1) (fun r8 σ7 => some (r8, σ7))) else (gNm (gUp σ1 101 7 0) (fun σ4 => gBd (M_X10_settlementOf a1 a2 a3 σ4) (fun r6 σ5 => some ((σ5 101 9), σ5)))))
set_option maxHeartbeats 4000000 in
set_option maxRecDepth 100000 in
theorem c_X10_through (l : Launch) (G : gPar) (a1 a2 a3 : Int32) (σ : gSt) {r : Int32} {σ' : gSt} (h : M_X10_through a1 a2 a3 σ = some (r, σ')) : gC l G yX10_through cX10_through 5 (some .int) 4 104 [.ref (G.2.2.1 101), .int a1, .int a2, .int a3] σ r σ' := by
  refine gC_of (by decide) (Nat.le_of_ble_eq_true rfl) ?_
  intro p e s m below meth c hx hb hr ht hown hlk hml hE hP ls hl
  have hS : va_S (gA G) s.heap s.heap [] := va_S.rf
  have hl : lv_has ls 5 [(0, .ref (G.2.2.1 101)), (1, .int a1), (2, .int a2), (3, .int a3)] := hl
  unfold M_X10_through at h
  refine lv_aload_n hx hb dX10_through_0 rfl (lv_at hl 0 rfl) ?_
  refine lv_iload_n hx hb dX10_through_1 rfl (lv_at hl 1 rfl) ?_
  refine lv_iload_n hx hb dX10_through_2 rfl (lv_at hl 2 rfl) ?_
  refine lv_iload_n hx hb dX10_through_3 rfl (lv_at hl 3 rfl) ?_
  obtain ⟨r2, σ1, hcr2, h⟩ := g_bd h
  refine g_callV (As := [.int a1, .int a2, .int a3]) (n := 3) hx hb hml hown ht (c_X10_canAsk l G _ _ _ _ hcr2) m_910 m_912 m_19 m_41 m_913 (by decide +kernel) (by decide) gE_101 rfl hE hP hS (fun _ h => h) (fun _ _ h => h) rfl hl.1 rfl (Nat.le_of_ble_eq_true rfl) dX10_through_4 ⟨by decide, by decide⟩ ⟨Nat.zero_le _, Nat.zero_le _⟩ (fun H locs hP hS => ?_)
  refine lv_if_ne (tgt := 17) hx hb dX10_through_7 (by decide) (fun c3 => ?_) (fun c3 => ?_)
  · have h := g_iff c3 h
    refine lv_aload_n hx hb dX10_through_17 rfl (lv_at hl 0 rfl) ?_
    refine lv_iconst (v := 0) hx hb dX10_through_18 (by decide) ?_
    refine g_put hx hb ht hown hE hP hS (by decide) gE_101 uX10 tyX10_ok nmX10 rfl 7 (by decide) m_797 rfl rfl rfl rfl rfl (Nat.le_of_ble_eq_true rfl) rfl dX10_through_19 (fun H locs σ4 eσ4 hP hS => ?_)
    have h := g_nm eσ4 h
    refine lv_aload_n hx hb dX10_through_22 rfl (lv_at hl 0 rfl) ?_
    refine lv_iload_n hx hb dX10_through_23 rfl (lv_at hl 1 rfl) ?_
    refine lv_iload_n hx hb dX10_through_24 rfl (lv_at hl 2 rfl) ?_
    refine lv_iload_n hx hb dX10_through_25 rfl (lv_at hl 3 rfl) ?_
    obtain ⟨r6, σ5, hcr6, h⟩ := g_bd h
    refine g_callV (As := [.int a1, .int a2, .int a3]) (n := 3) hx hb hml hown ht (c_X10_settlementOf l G _ _ _ _ hcr6) m_930 m_932 m_23 m_41 m_933 (by decide +kernel) (by decide) gE_101 rfl hE hP hS (fun _ h => h) (fun _ _ h => h) rfl hl.1 rfl (Nat.le_of_ble_eq_true rfl) dX10_through_26 ⟨by decide, by decide⟩ ⟨Nat.zero_le _, Nat.zero_le _⟩ (fun H locs hP hS => ?_)
    refine lv_istore (lv' := [(4, .int r6), (0, .ref (G.2.2.1 101)), (1, .int a1), (2, .int a2), (3, .int a3)]) hx hb dX10_through_29 hl (by decide) rfl (fun ls hl => ?_)
    refine lv_aload_n hx hb dX10_through_31 rfl (lv_at hl 1 rfl) ?_
    refine g_get hx hb ht hown hE hP (by decide) gE_101 uX10 rfl 9 (by decide) m_799 rfl rfl dX10_through_32 ?_
    exact g_iret hx hb hr hlk hE hP hS h dX10_through_35
  · have h := g_ift c3 h
    refine lv_aload_n hx hb dX10_through_10 rfl (lv_at hl 0 rfl) ?_
    refine lv_ldc hx hb hown (ht _ m_837) dX10_through_11 ?_
    obtain ⟨r8, σ7, hcr8, h⟩ := g_bd h
    refine g_callV (As := [.int (-100001)]) (n := 1) hx hb hml hown ht (c_X10_finding l G _ _ hcr8) m_838 m_840 m_14 m_41 m_841 (by decide +kernel) (by decide) gE_101 rfl hE hP hS (fun _ h => h) (fun _ _ h => h) rfl hl.1 rfl (Nat.le_of_ble_eq_true rfl) dX10_through_13 ⟨by decide, by decide⟩ ⟨Nat.zero_le _, Nat.zero_le _⟩ (fun H locs hP hS => ?_)
    exact g_iret hx hb hr hlk hE hP hS h dX10_through_16
