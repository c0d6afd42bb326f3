def M_X9_within (a1 a2 a3 : Int32) (σ : gSt) : gO :=
  if a1 < a2 then (some (0, σ)) else (if a3 < a1 then (some (0, σ)) else (some (1, σ)))
set_option maxHeartbeats 4000000 in
set_option maxRecDepth 100000 in
theorem c_X9_within (l : Launch) (G : gPar) (a1 a2 a3 : Int32) (σ : gSt) {r : Int32} {σ' : gSt} (h : M_X9_within a1 a2 a3 σ = some (r, σ')) : gC l G yX9_within cX9_within 3 (some .boolean) 0 0 [.int a1, .int a2, .int a3] σ r σ' := by
  refine gC_of (by decide) (Nat.le_of_ble_eq_true rfl) ?_
  intro p e s m below meth c hx hb hr ht hown hlk hml hE hP ls hl
  have hS : va_S (gA G) s.heap s.heap [] := va_S.rf
  have hl : lv_has ls 3 [(0, .int a1), (1, .int a2), (2, .int a3)] := hl
  unfold M_X9_within at h
  refine lv_iload_n hx hb dX9_within_0 rfl (lv_at hl 0 rfl) ?_
  refine lv_iload_n hx hb dX9_within_1 rfl (lv_at hl 1 rfl) ?_
  refine lv_icmp_lt (tgt := 14) hx hb dX9_within_2 (by decide) (fun c1 => ?_) (fun c1 => ?_)
  · have h := g_ift c1 h
    refine lv_iconst (v := 0) hx hb dX9_within_14 (by decide) ?_
    exact g_zret hx hb hr hlk hE hP hS (by decide) h dX9_within_15
  · have h := g_iff c1 h
    refine lv_iload_n hx hb dX9_within_5 rfl (lv_at hl 0 rfl) ?_
    refine lv_iload_n hx hb dX9_within_6 rfl (lv_at hl 2 rfl) ?_
    refine lv_icmp_gt (tgt := 14) hx hb dX9_within_7 (by decide) (fun c2 => ?_) (fun c2 => ?_)
    · have h := g_ift c2 h
      refine lv_iconst (v := 0) hx hb dX9_within_14 (by decide) ?_
      exact g_zret hx hb hr hlk hE hP hS (by decide) h dX9_within_15
    · have h := g_iff c2 h
      refine lv_iconst (v := 1) hx hb dX9_within_10 (by decide) ?_
      refine lv_goto (tgt := 15) hx hb dX9_within_11 (by decide) ?_
      exact g_zret hx hb hr hlk hE hP hS (by decide) h dX9_within_15

def M_X9_isDay (a1 : Int32) (σ : gSt) : gO :=
  gBd (M_X9_within a1 0 9999 σ) (fun r2 σ1 => gGd (r2 = 0 ∨ r2 = 1) (some (r2, σ1)))
set_option maxHeartbeats 4000000 in
set_option maxRecDepth 100000 in
theorem c_X9_isDay (l : Launch) (G : gPar) (a1 : Int32) (σ : gSt) {r : Int32} {σ' : gSt} (h : M_X9_isDay a1 σ = some (r, σ')) : gC l G yX9_isDay cX9_isDay 1 (some .boolean) 1 22 [.int a1] σ r σ' := by
  refine gC_of (by decide) (Nat.le_of_ble_eq_true rfl) ?_
  intro p e s m below meth c hx hb hr ht hown hlk hml hE hP ls hl
  have hS : va_S (gA G) s.heap s.heap [] := va_S.rf
  have hl : lv_has ls 1 [(0, .int a1)] := hl
  unfold M_X9_isDay at h
  refine lv_iload_n hx hb dX9_isDay_0 rfl (lv_at hl 0 rfl) ?_
  refine lv_iconst (v := 0) hx hb dX9_isDay_1 (by decide) ?_
  refine lv_sipush (v := 9999) hx hb dX9_isDay_2 (by decide) ?_
  obtain ⟨r2, σ1, hcr2, h⟩ := g_bd h
  refine g_callS (As := [.int a1, .int 0, .int 9999]) (n := 3) hx hb hml hown ht (c_X9_within l G _ _ _ _ hcr2) m_354 m_355 m_31 m_356 (by decide +kernel) hE hP hS (fun _ h => h) (fun _ _ h => h) rfl hl.1 rfl (Nat.le_of_ble_eq_true rfl) dX9_isDay_5 ⟨by decide, by decide⟩ ⟨Nat.zero_le _, Nat.zero_le _⟩ (fun H locs hP hS => ?_)
  obtain ⟨z3, h⟩ := g_gd h
  exact g_zret hx hb hr hlk hE hP hS z3 h dX9_isDay_8

def M_X9_isWeek (a1 : Int32) (σ : gSt) : gO :=
  gBd (M_X9_within a1 0 59 σ) (fun r2 σ1 => gGd (r2 = 0 ∨ r2 = 1) (some (r2, σ1)))
set_option maxHeartbeats 4000000 in
set_option maxRecDepth 100000 in
theorem c_X9_isWeek (l : Launch) (G : gPar) (a1 : Int32) (σ : gSt) {r : Int32} {σ' : gSt} (h : M_X9_isWeek a1 σ = some (r, σ')) : gC l G yX9_isWeek cX9_isWeek 1 (some .boolean) 1 22 [.int a1] σ r σ' := by
  refine gC_of (by decide) (Nat.le_of_ble_eq_true rfl) ?_
  intro p e s m below meth c hx hb hr ht hown hlk hml hE hP ls hl
  have hS : va_S (gA G) s.heap s.heap [] := va_S.rf
  have hl : lv_has ls 1 [(0, .int a1)] := hl
  unfold M_X9_isWeek at h
  refine lv_iload_n hx hb dX9_isWeek_0 rfl (lv_at hl 0 rfl) ?_
  refine lv_iconst (v := 0) hx hb dX9_isWeek_1 (by decide) ?_
  refine lv_bipush (v := 59) hx hb dX9_isWeek_2 (by decide) ?_
  obtain ⟨r2, σ1, hcr2, h⟩ := g_bd h
  refine g_callS (As := [.int a1, .int 0, .int 59]) (n := 3) hx hb hml hown ht (c_X9_within l G _ _ _ _ hcr2) m_354 m_355 m_31 m_356 (by decide +kernel) hE hP hS (fun _ h => h) (fun _ _ h => h) rfl hl.1 rfl (Nat.le_of_ble_eq_true rfl) dX9_isWeek_4 ⟨by decide, by decide⟩ ⟨Nat.zero_le _, Nat.zero_le _⟩ (fun H locs hP hS => ?_)
  obtain ⟨z3, h⟩ := g_gd h
  exact g_zret hx hb hr hlk hE hP hS z3 h dX9_isWeek_7

def M_X9_isSheet (a1 : Int32) (σ : gSt) : gO :=
  gBd (M_X9_within a1 0 3 σ) (fun r2 σ1 => gGd (r2 = 0 ∨ r2 = 1) (some (r2, σ1)))
set_option maxHeartbeats 4000000 in
set_option maxRecDepth 100000 in
theorem c_X9_isSheet (l : Launch) (G : gPar) (a1 : Int32) (σ : gSt) {r : Int32} {σ' : gSt} (h : M_X9_isSheet a1 σ = some (r, σ')) : gC l G yX9_isSheet cX9_isSheet 1 (some .boolean) 1 22 [.int a1] σ r σ' := by
  refine gC_of (by decide) (Nat.le_of_ble_eq_true rfl) ?_
  intro p e s m below meth c hx hb hr ht hown hlk hml hE hP ls hl
  have hS : va_S (gA G) s.heap s.heap [] := va_S.rf
  have hl : lv_has ls 1 [(0, .int a1)] := hl
  unfold M_X9_isSheet at h
  refine lv_iload_n hx hb dX9_isSheet_0 rfl (lv_at hl 0 rfl) ?_
  refine lv_iconst (v := 0) hx hb dX9_isSheet_1 (by decide) ?_
  refine lv_iconst (v := 3) hx hb dX9_isSheet_2 (by decide) ?_
  obtain ⟨r2, σ1, hcr2, h⟩ := g_bd h
  refine g_callS (As := [.int a1, .int 0, .int 3]) (n := 3) hx hb hml hown ht (c_X9_within l G _ _ _ _ hcr2) m_354 m_355 m_31 m_356 (by decide +kernel) hE hP hS (fun _ h => h) (fun _ _ h => h) rfl hl.1 rfl (Nat.le_of_ble_eq_true rfl) dX9_isSheet_3 ⟨by decide, by decide⟩ ⟨Nat.zero_le _, Nat.zero_le _⟩ (fun H locs hP hS => ?_)
  obtain ⟨z3, h⟩ := g_gd h
  exact g_zret hx hb hr hlk hE hP hS z3 h dX9_isSheet_6

def M_X9_hasNumber (a1 : Int32) (σ : gSt) : gO :=
  if a1 = 0 then (some (0, σ)) else (if a1 = 3 then (some (0, σ)) else (some (1, σ)))
set_option maxHeartbeats 4000000 in
set_option maxRecDepth 100000 in
theorem c_X9_hasNumber (l : Launch) (G : gPar) (a1 : Int32) (σ : gSt) {r : Int32} {σ' : gSt} (h : M_X9_hasNumber a1 σ = some (r, σ')) : gC l G yX9_hasNumber cX9_hasNumber 1 (some .boolean) 0 0 [.int a1] σ r σ' := by
  refine gC_of (by decide) (Nat.le_of_ble_eq_true rfl) ?_
  intro p e s m below meth c hx hb hr ht hown hlk hml hE hP ls hl
  have hS : va_S (gA G) s.heap s.heap [] := va_S.rf
  have hl : lv_has ls 1 [(0, .int a1)] := hl
  unfold M_X9_hasNumber at h
  refine lv_iload_n hx hb dX9_hasNumber_0 rfl (lv_at hl 0 rfl) ?_
  refine lv_if_eq (tgt := 13) hx hb dX9_hasNumber_1 (by decide) (fun c1 => ?_) (fun c1 => ?_)
  · have h := g_ift c1 h
    refine lv_iconst (v := 0) hx hb dX9_hasNumber_13 (by decide) ?_
    exact g_zret hx hb hr hlk hE hP hS (by decide) h dX9_hasNumber_14
  · have h := g_iff c1 h
    refine lv_iload_n hx hb dX9_hasNumber_4 rfl (lv_at hl 0 rfl) ?_
    refine lv_iconst (v := 3) hx hb dX9_hasNumber_5 (by decide) ?_
    refine lv_icmp_eq (tgt := 13) hx hb dX9_hasNumber_6 (by decide) (fun c2 => ?_) (fun c2 => ?_)
    · have h := g_ift c2 h
      refine lv_iconst (v := 0) hx hb dX9_hasNumber_13 (by decide) ?_
      exact g_zret hx hb hr hlk hE hP hS (by decide) h dX9_hasNumber_14
    · have h := g_iff c2 h
      refine lv_iconst (v := 1) hx hb dX9_hasNumber_9 (by decide) ?_
      refine lv_goto (tgt := 14) hx hb dX9_hasNumber_10 (by decide) ?_
      exact g_zret hx hb hr hlk hE hP hS (by decide) h dX9_hasNumber_14

def M_X9_finding (a1 : Int32) (σ : gSt) : gO :=
  gNm (gUp σ 0 5 ((σ 0 5) + 1)) (fun σ1 => some (a1, σ1))
set_option maxHeartbeats 4000000 in
set_option maxRecDepth 100000 in
theorem c_X9_finding (l : Launch) (G : gPar) (a1 : Int32) (σ : gSt) {r : Int32} {σ' : gSt} (h : M_X9_finding a1 σ = some (r, σ')) : gC l G yX9_finding cX9_finding 2 (some .int) 0 0 [.ref (G.2.2.1 0), .int a1] σ r σ' := by
  refine gC_of (by decide) (Nat.le_of_ble_eq_true rfl) ?_
  intro p e s m below meth c hx hb hr ht hown hlk hml hE hP ls hl
  have hS : va_S (gA G) s.heap s.heap [] := va_S.rf
  have hl : lv_has ls 2 [(0, .ref (G.2.2.1 0)), (1, .int a1)] := hl
  unfold M_X9_finding at h
  refine lv_aload_n hx hb dX9_finding_0 rfl (lv_at hl 0 rfl) ?_
  refine lv_dup hx hb dX9_finding_1 rfl ?_
  refine g_get hx hb ht hown hE hP (by decide) gE_0 uX9 rfl 5 (by decide) m_336 rfl rfl dX9_finding_2 ?_
  refine lv_iconst (v := 1) hx hb dX9_finding_5 (by decide) ?_
  refine lv_iadd hx hb dX9_finding_6 ?_
  refine g_put hx hb ht hown hE hP hS (by decide) gE_0 uX9 tyX9_ok nmX9 rfl 5 (by decide) m_336 rfl rfl rfl rfl rfl (Nat.le_of_ble_eq_true rfl) rfl dX9_finding_7 (fun H locs σ1 eσ1 hP hS => ?_)
  have h := g_nm eσ1 h
  refine lv_iload_n hx hb dX9_finding_10 rfl (lv_at hl 1 rfl) ?_
  exact g_iret hx hb hr hlk hE hP hS h dX9_finding_11

def M_X9_parishOrNone (a1 : Int32) (σ : gSt) : gO :=
  if a1 = (-1) then (gBd (M_X9_finding (-100006) σ) (fun r3 σ2 => some (r3, σ2))) else (some (a1, σ))
set_option maxHeartbeats 4000000 in
set_option maxRecDepth 100000 in
theorem c_X9_parishOrNone (l : Launch) (G : gPar) (a1 : Int32) (σ : gSt) {r : Int32} {σ' : gSt} (h : M_X9_parishOrNone a1 σ = some (r, σ')) : gC l G yX9_parishOrNone cX9_parishOrNone 2 (some .int) 1 21 [.ref (G.2.2.1 0), .int a1] σ r σ' := by
  refine gC_of (by decide) (Nat.le_of_ble_eq_true rfl) ?_
  intro p e s m below meth c hx hb hr ht hown hlk hml hE hP ls hl
  have hS : va_S (gA G) s.heap s.heap [] := va_S.rf
  have hl : lv_has ls 2 [(0, .ref (G.2.2.1 0)), (1, .int a1)] := hl
  unfold M_X9_parishOrNone at h
  refine lv_iload_n hx hb dX9_parishOrNone_0 rfl (lv_at hl 1 rfl) ?_
  refine lv_iconst (v := (-1)) hx hb dX9_parishOrNone_1 (by decide) ?_
  refine lv_icmp_ne (tgt := 14) hx hb dX9_parishOrNone_2 (by decide) (fun c1 => ?_) (fun c1 => ?_)
  · have h := g_iff c1 h
    refine lv_iload_n hx hb dX9_parishOrNone_14 rfl (lv_at hl 1 rfl) ?_
    exact g_iret hx hb hr hlk hE hP hS h dX9_parishOrNone_15
  · have h := g_ift c1 h
    refine lv_aload_n hx hb dX9_parishOrNone_5 rfl (lv_at hl 0 rfl) ?_
    refine lv_ldc hx hb hown (ht _ m_452) dX9_parishOrNone_6 ?_
    obtain ⟨r3, σ2, hcr3, h⟩ := g_bd h
    refine g_callV (As := [.int (-100006)]) (n := 1) hx hb hml hown ht (c_X9_finding l G _ _ hcr3) m_358 m_360 m_0 m_31 m_361 (by decide +kernel) (by decide) gE_0 rfl hE hP hS (fun _ h => h) (fun _ _ h => h) rfl hl.1 rfl (Nat.le_of_ble_eq_true rfl) dX9_parishOrNone_8 ⟨by decide, by decide⟩ ⟨Nat.zero_le _, Nat.zero_le _⟩ (fun H locs hP hS => ?_)
    refine lv_goto (tgt := 15) hx hb dX9_parishOrNone_11 (by decide) ?_
    exact g_iret hx hb hr hlk hE hP hS h dX9_parishOrNone_15

def M_X4_has (a1 : Int32) (σ : gSt) : gO :=
  if a1 < 0 then (some (0, σ)) else (if (σ 2 0) ≤ a1 then (some (0, σ)) else (some (1, σ)))
set_option maxHeartbeats 4000000 in
set_option maxRecDepth 100000 in
theorem c_X4_has (l : Launch) (G : gPar) (a1 : Int32) (σ : gSt) {r : Int32} {σ' : gSt} (h : M_X4_has a1 σ = some (r, σ')) : gC l G yX4_has cX4_has 2 (some .boolean) 0 0 [.ref (G.2.2.1 2), .int a1] σ r σ' := by
  refine gC_of (by decide) (Nat.le_of_ble_eq_true rfl) ?_
  intro p e s m below meth c hx hb hr ht hown hlk hml hE hP ls hl
  have hS : va_S (gA G) s.heap s.heap [] := va_S.rf
  have hl : lv_has ls 2 [(0, .ref (G.2.2.1 2)), (1, .int a1)] := hl
  unfold M_X4_has at h
  refine lv_iload_n hx hb dX4_has_0 rfl (lv_at hl 1 rfl) ?_
  refine lv_if_lt (tgt := 16) hx hb dX4_has_1 (by decide) (fun c1 => ?_) (fun c1 => ?_)
  · have h := g_ift c1 h
    refine lv_iconst (v := 0) hx hb dX4_has_16 (by decide) ?_
    exact g_zret hx hb hr hlk hE hP hS (by decide) h dX4_has_17
  · have h := g_iff c1 h
    refine lv_iload_n hx hb dX4_has_4 rfl (lv_at hl 1 rfl) ?_
    refine lv_aload_n hx hb dX4_has_5 rfl (lv_at hl 0 rfl) ?_
    refine g_get hx hb ht hown hE hP (by decide) gE_2 uX4 rfl 0 (by decide) m_68 rfl rfl dX4_has_6 ?_
    refine lv_icmp_ge (tgt := 16) hx hb dX4_has_9 (by decide) (fun c2 => ?_) (fun c2 => ?_)
    · have h := g_ift c2 h
      refine lv_iconst (v := 0) hx hb dX4_has_16 (by decide) ?_
      exact g_zret hx hb hr hlk hE hP hS (by decide) h dX4_has_17
    · have h := g_iff c2 h
      refine lv_iconst (v := 1) hx hb dX4_has_12 (by decide) ?_
      refine lv_goto (tgt := 17) hx hb dX4_has_13 (by decide) ?_
      exact g_zret hx hb hr hlk hE hP hS (by decide) h dX4_has_17

def M_X4_add (a1 : Int32) (σ : gSt) : gO :=
  gIx 6 (σ 2 0) (gNm (gUp σ 3 (σ 2 0).toNatClampNeg a1) (fun σ2 => gNm (gUp σ2 2 0 ((σ2 2 0) + 1)) (fun σ3 => some (((σ3 2 0) - 1), σ3))))
set_option maxHeartbeats 4000000 in
set_option maxRecDepth 100000 in
theorem c_X4_add (l : Launch) (G : gPar) (a1 : Int32) (σ : gSt) {r : Int32} {σ' : gSt} (h : M_X4_add a1 σ = some (r, σ')) : gC l G yX4_add cX4_add 2 (some .int) 0 0 [.ref (G.2.2.1 2), .int a1] σ r σ' := by
  refine gC_of (by decide) (Nat.le_of_ble_eq_true rfl) ?_
  intro p e s m below meth c hx hb hr ht hown hlk hml hE hP ls hl
  have hS : va_S (gA G) s.heap s.heap [] := va_S.rf
  have hl : lv_has ls 2 [(0, .ref (G.2.2.1 2)), (1, .int a1)] := hl
  unfold M_X4_add at h
  refine lv_aload_n hx hb dX4_add_0 rfl (lv_at hl 0 rfl) ?_
  refine g_get hx hb ht hown hE hP (by decide) gE_2 uX4 rfl 1 (by decide) m_70 rfl rfl dX4_add_1 ?_
  refine lv_aload_n hx hb dX4_add_4 rfl (lv_at hl 0 rfl) ?_
  refine g_get hx hb ht hown hE hP (by decide) gE_2 uX4 rfl 0 (by decide) m_68 rfl rfl dX4_add_5 ?_
  refine lv_iload_n hx hb dX4_add_8 rfl (lv_at hl 1 rfl) ?_
  obtain ⟨i1, h⟩ := g_ix h
  refine g_iast hx hb hE hP hS (by decide) rfl (by decide) i1 dX4_add_9 (fun H locs σ2 eσ2 hP hS => ?_)
  have h := g_nm eσ2 h
  refine lv_aload_n hx hb dX4_add_10 rfl (lv_at hl 0 rfl) ?_
  refine lv_dup hx hb dX4_add_11 rfl ?_
  refine g_get hx hb ht hown hE hP (by decide) gE_2 uX4 rfl 0 (by decide) m_68 rfl rfl dX4_add_12 ?_
  refine lv_iconst (v := 1) hx hb dX4_add_15 (by decide) ?_
  refine lv_iadd hx hb dX4_add_16 ?_
  refine g_put hx hb ht hown hE hP hS (by decide) gE_2 uX4 tyX4_ok nmX4 rfl 0 (by decide) m_68 rfl rfl rfl rfl rfl (Nat.le_of_ble_eq_true rfl) rfl dX4_add_17 (fun H locs σ3 eσ3 hP hS => ?_)
  have h := g_nm eσ3 h
  refine lv_aload_n hx hb dX4_add_20 rfl (lv_at hl 0 rfl) ?_
  refine g_get hx hb ht hown hE hP (by decide) gE_2 uX4 rfl 0 (by decide) m_68 rfl rfl dX4_add_21 ?_
  refine lv_iconst (v := 1) hx hb dX4_add_24 (by decide) ?_
  refine lv_isub hx hb dX4_add_25 ?_
  exact g_iret hx hb hr hlk hE hP hS h dX4_add_26

def L1_X4_allWorth : Nat → Int32 → Int32 → gSt → (Int32 → Int32 → gSt → gO) → gO
  | 0, _, _, _, _ => none
  | nL1 + 1, l1_2, l1_1, σL1, kL1 =>
    if (σL1 2 0) ≤ l1_2 then (kL1 l1_2 l1_1 σL1) else (gIx 6 l1_2 (gNm ((l1_1 + (σL1 3 l1_2.toNatClampNeg)) : Int32) (fun x4 => gNm (l1_2 + 1 : Int32) (fun x5 => L1_X4_allWorth nL1 x5 x4 σL1 kL1))))
def M_X4_allWorth (σ : gSt) : gO :=
  L1_X4_allWorth gFu 0 0 σ (fun z6 z7 σ8 => some (z7, σ8))
set_option maxHeartbeats 4000000 in
set_option maxRecDepth 100000 in
theorem c_X4_allWorth (l : Launch) (G : gPar) (σ : gSt) {r : Int32} {σ' : gSt} (h : M_X4_allWorth σ = some (r, σ')) : gC l G yX4_allWorth cX4_allWorth 3 (some .int) 0 0 [.ref (G.2.2.1 2)] σ r σ' := by
  refine gC_of (by decide) (Nat.le_of_ble_eq_true rfl) ?_
  intro p e s m below meth c hx hb hr ht hown hlk hml hE hP ls hl
  have hS : va_S (gA G) s.heap s.heap [] := va_S.rf
  have hl : lv_has ls 3 [(0, .ref (G.2.2.1 2))] := hl
  unfold M_X4_allWorth at h
  refine lv_iconst (v := 0) hx hb dX4_allWorth_0 (by decide) ?_
  refine lv_istore_n (lv' := [(1, .int 0), (0, .ref (G.2.2.1 2))]) hx hb dX4_allWorth_1 rfl hl (by decide) rfl (fun ls hl => ?_)
  refine lv_iconst (v := 0) hx hb dX4_allWorth_2 (by decide) ?_
  refine lv_istore_n (lv' := [(2, .int 0), (1, .int 0), (0, .ref (G.2.2.1 2))]) hx hb dX4_allWorth_3 rfl hl (by decide) rfl (fun ls hl => ?_)
  have LPL1 : ∀ (kL1 : Int32 → Int32 → gSt → gO), (∀ (l1_2 l1_1 : Int32) (σL1 : gSt) (H : Heap) (locs : List Loc) (ls : Array Slot), kL1 l1_2 l1_1 σL1 = some (r, σ') → gW G σL1 H → va_S (gA G) s.heap H locs → lv_has ls 3 [(2, .int l1_2), (1, .int l1_1), (0, .ref (G.2.2.1 2))] → W p l e (gRm 0 0) s m ([.ref (G.2.2.1 2)].toArray) below meth c H locs 0 0 (MQ below (gQ G r σ') ([.ref (G.2.2.1 2)].toArray) s 0 0 (gA G)) (F0 m 27 ls [])) → ∀ (nL1 : Nat) (l1_2 l1_1 : Int32) (σL1 : gSt) (H : Heap) (locs : List Loc) (ls : Array Slot), L1_X4_allWorth nL1 l1_2 l1_1 σL1 kL1 = some (r, σ') → gW G σL1 H → va_S (gA G) s.heap H locs → lv_has ls 3 [(2, .int l1_2), (1, .int l1_1), (0, .ref (G.2.2.1 2))] → W p l e (gRm 0 0) s m ([.ref (G.2.2.1 2)].toArray) below meth c H locs 0 0 (MQ below (gQ G r σ') ([.ref (G.2.2.1 2)].toArray) s 0 0 (gA G)) (F0 m 4 ls []) := by
    intro kL1 hKL1 nL1
    induction nL1 with
    | zero =>
      intro l1_2 l1_1 σL1 H locs ls h
      cases h
    | succ nL1 ihL1 =>
      intro l1_2 l1_1 σL1 H locs ls h hP hS hl
      rw [L1_X4_allWorth] at h
      refine lv_iload_n hx hb dX4_allWorth_4 rfl (lv_at hl 0 rfl) ?_
      refine lv_aload_n hx hb dX4_allWorth_5 rfl (lv_at hl 2 rfl) ?_
      refine g_get hx hb ht hown hE hP (by decide) gE_2 uX4 rfl 0 (by decide) m_68 rfl rfl dX4_allWorth_6 ?_
      refine lv_icmp_ge (tgt := 27) hx hb dX4_allWorth_9 (by decide) (fun c2 => ?_) (fun c2 => ?_)
      · have h := g_ift c2 h
        exact hKL1 _ _ _ _ _ _ h hP hS (lv_sub hl [0, 1, 2] rfl)
      · have h := g_iff c2 h
        refine lv_iload_n hx hb dX4_allWorth_12 rfl (lv_at hl 1 rfl) ?_
        refine lv_aload_n hx hb dX4_allWorth_13 rfl (lv_at hl 2 rfl) ?_
        refine g_get hx hb ht hown hE hP (by decide) gE_2 uX4 rfl 1 (by decide) m_70 rfl rfl dX4_allWorth_14 ?_
        refine lv_iload_n hx hb dX4_allWorth_17 rfl (lv_at hl 0 rfl) ?_
        obtain ⟨i3, h⟩ := g_ix h
        refine g_iald hx hb hE hP (by decide) rfl (by decide) i3 dX4_allWorth_18 ?_
        refine lv_iadd hx hb dX4_allWorth_19 ?_
        refine lv_topi (fun x4 ex4 => ?_)
        have h := g_nm ex4 h
        refine lv_istore_n (lv' := [(1, .int x4), (2, .int l1_2), (0, .ref (G.2.2.1 2))]) hx hb dX4_allWorth_20 rfl hl (by decide) rfl (fun ls hl => ?_)
        obtain ⟨x5, ex5⟩ : ∃ y : Int32, y = l1_2 + 1 := ⟨_, rfl⟩
        have h := g_nm ex5 h
        refine lv_iinc (v := x5) (lv' := [(2, .int x5), (1, .int x4), (0, .ref (G.2.2.1 2))]) hx hb dX4_allWorth_21 hl (k := 1) rfl (by rw [ex5]; rfl) (by decide) rfl (fun ls hl => ?_)
        refine lv_goto (tgt := 4) hx hb dX4_allWorth_24 (by decide) ?_
        exact ihL1 _ _ _ _ _ _ h hP hS (lv_sub hl [0, 1, 2] rfl)
  refine LPL1 _ (fun z6 z7 σ8 H locs ls h hP hS hl => ?_) gFu _ _ _ _ _ _ h hP hS (lv_sub hl [0, 1, 2] rfl)
  refine lv_iload_n hx hb dX4_allWorth_27 rfl (lv_at hl 1 rfl) ?_
  exact g_iret hx hb hr hlk hE hP hS h dX4_allWorth_28

def L5_X4_share (x4 a1 a2 a3 : Int32) : Nat → Int32 → Int32 → Int32 → gSt → (Int32 → Int32 → Int32 → gSt → gO) → gO
  | 0, _, _, _, _, _ => none
  | nL5 + 1, l5_7, l5_5, l5_4, σL5, kL5 =>
    if (σL5 2 0) ≤ l5_7 then (kL5 l5_7 l5_5 l5_4 σL5) else (gIx 6 l5_7 (gGd (¬ a3 = 0) (gNm ((l5_4 - (((σL5 3 l5_7.toNatClampNeg) * a2) / a3)) : Int32) (fun x9 => gIx 6 l5_7 (gGd (¬ a3 = 0) (gNm ((((σL5 3 l5_7.toNatClampNeg) * a2) - ((σL5 3 l5_7.toNatClampNeg) * a2) / a3 * a3) : Int32) (fun x12 => if x4 < x12 then (gNm (l5_5 + 1 : Int32) (fun x14 => gNm (l5_7 + 1 : Int32) (fun x15 => L5_X4_share x4 a1 a2 a3 nL5 x15 x14 x9 σL5 kL5))) else (if x12 = x4 then (if a1 ≤ l5_7 then (gNm (l5_7 + 1 : Int32) (fun x19 => L5_X4_share x4 a1 a2 a3 nL5 x19 l5_5 x9 σL5 kL5)) else (gNm (l5_5 + 1 : Int32) (fun x20 => gNm (l5_7 + 1 : Int32) (fun x21 => L5_X4_share x4 a1 a2 a3 nL5 x21 x20 x9 σL5 kL5)))) else (gNm (l5_7 + 1 : Int32) (fun x17 => L5_X4_share x4 a1 a2 a3 nL5 x17 l5_5 x9 σL5 kL5))))))))))
def M_X4_share (a1 a2 a3 : Int32) (σ : gSt) : gO :=
  if 0 < a3 then (gIx 6 a1 (gGd (¬ a3 = 0) (gNm ((((σ 3 a1.toNatClampNeg) * a2) - ((σ 3 a1.toNatClampNeg) * a2) / a3 * a3) : Int32) (fun x4 => L5_X4_share x4 a1 a2 a3 gFu 0 0 a2 σ (fun z22 z23 z24 σ25 => gIx 6 a1 (gGd (¬ a3 = 0) (if z24 ≤ z23 then (some (((((σ25 3 a1.toNatClampNeg) * a2) / a3) + 0), σ25)) else (some (((((σ25 3 a1.toNatClampNeg) * a2) / a3) + 1), σ25))))))))) else (some (0, σ))
set_option maxHeartbeats 4000000 in
set_option maxRecDepth 100000 in
theorem c_X4_share (l : Launch) (G : gPar) (a1 a2 a3 : Int32) (σ : gSt) {r : Int32} {σ' : gSt} (h : M_X4_share a1 a2 a3 σ = some (r, σ')) : gC l G yX4_share cX4_share 9 (some .int) 0 0 [.ref (G.2.2.1 2), .int a1, .int a2, .int a3] σ r σ' := by
  refine gC_of (by decide) (Nat.le_of_ble_eq_true rfl) ?_
  intro p e s m below meth c hx hb hr ht hown hlk hml hE hP ls hl
  have hS : va_S (gA G) s.heap s.heap [] := va_S.rf
  have hl : lv_has ls 9 [(0, .ref (G.2.2.1 2)), (1, .int a1), (2, .int a2), (3, .int a3)] := hl
  unfold M_X4_share at h
  refine lv_iload_n hx hb dX4_share_0 rfl (lv_at hl 3 rfl) ?_
  refine lv_if_gt (tgt := 6) hx hb dX4_share_1 (by decide) (fun c1 => ?_) (fun c1 => ?_)
  · have h := g_ift c1 h
    refine lv_iload_n hx hb dX4_share_6 rfl (lv_at hl 2 rfl) ?_
    refine lv_istore (lv' := [(4, .int a2), (0, .ref (G.2.2.1 2)), (1, .int a1), (2, .int a2), (3, .int a3)]) hx hb dX4_share_7 hl (by decide) rfl (fun ls hl => ?_)
    refine lv_iconst (v := 0) hx hb dX4_share_9 (by decide) ?_
    refine lv_istore (lv' := [(5, .int 0), (4, .int a2), (0, .ref (G.2.2.1 2)), (1, .int a1), (2, .int a2), (3, .int a3)]) hx hb dX4_share_10 hl (by decide) rfl (fun ls hl => ?_)
    refine lv_aload_n hx hb dX4_share_12 rfl (lv_at hl 2 rfl) ?_
    refine g_get hx hb ht hown hE hP (by decide) gE_2 uX4 rfl 1 (by decide) m_70 rfl rfl dX4_share_13 ?_
    refine lv_iload_n hx hb dX4_share_16 rfl (lv_at hl 3 rfl) ?_
    obtain ⟨i2, h⟩ := g_ix h
    refine g_iald hx hb hE hP (by decide) rfl (by decide) i2 dX4_share_17 ?_
    refine lv_iload_n hx hb dX4_share_18 rfl (lv_at hl 4 rfl) ?_
    refine lv_imul hx hb dX4_share_19 ?_
    refine lv_iload_n hx hb dX4_share_20 rfl (lv_at hl 5 rfl) ?_
    obtain ⟨d3, h⟩ := g_gd h
    refine lv_irem hx hb dX4_share_21 d3 ?_
    refine lv_topi (fun x4 ex4 => ?_)
    have h := g_nm ex4 h
    refine lv_istore (lv' := [(6, .int x4), (5, .int 0), (4, .int a2), (0, .ref (G.2.2.1 2)), (1, .int a1), (2, .int a2), (3, .int a3)]) hx hb dX4_share_22 hl (by decide) rfl (fun ls hl => ?_)
    refine lv_iconst (v := 0) hx hb dX4_share_24 (by decide) ?_
    refine lv_istore (lv' := [(7, .int 0), (6, .int x4), (5, .int 0), (4, .int a2), (0, .ref (G.2.2.1 2)), (1, .int a1), (2, .int a2), (3, .int a3)]) hx hb dX4_share_25 hl (by decide) rfl (fun ls hl => ?_)
    have LPL5 : ∀ (kL5 : Int32 → Int32 → Int32 → gSt → gO), (∀ (l5_7 l5_5 l5_4 : Int32) (σL5 : gSt) (H : Heap) (locs : List Loc) (ls : Array Slot), kL5 l5_7 l5_5 l5_4 σL5 = some (r, σ') → gW G σL5 H → va_S (gA G) s.heap H locs → lv_has ls 9 [(7, .int l5_7), (6, .int x4), (5, .int l5_5), (4, .int l5_4), (0, .ref (G.2.2.1 2)), (1, .int a1), (2, .int a2), (3, .int a3)] → W p l e (gRm 0 0) s m ([.ref (G.2.2.1 2), .int a1, .int a2, .int a3].toArray) below meth c H locs 0 0 (MQ below (gQ G r σ') ([.ref (G.2.2.1 2), .int a1, .int a2, .int a3].toArray) s 0 0 (gA G)) (F0 m 94 ls [])) → ∀ (nL5 : Nat) (l5_7 l5_5 l5_4 : Int32) (σL5 : gSt) (H : Heap) (locs : List Loc) (ls : Array Slot), L5_X4_share x4 a1 a2 a3 nL5 l5_7 l5_5 l5_4 σL5 kL5 = some (r, σ') → gW G σL5 H → va_S (gA G) s.heap H locs → lv_has ls 9 [(7, .int l5_7), (6, .int x4), (5, .int l5_5), (4, .int l5_4), (0, .ref (G.2.2.1 2)), (1, .int a1), (2, .int a2), (3, .int a3)] → W p l e (gRm 0 0) s m ([.ref (G.2.2.1 2), .int a1, .int a2, .int a3].toArray) below meth c H locs 0 0 (MQ below (gQ G r σ') ([.ref (G.2.2.1 2), .int a1, .int a2, .int a3].toArray) s 0 0 (gA G)) (F0 m 27 ls []) := by
      intro kL5 hKL5 nL5
      induction nL5 with
      | zero =>
        intro l5_7 l5_5 l5_4 σL5 H locs ls h
        cases h
      | succ nL5 ihL5 =>
        intro l5_7 l5_5 l5_4 σL5 H locs ls h hP hS hl
        rw [L5_X4_share] at h
        refine lv_iload hx hb dX4_share_27 (lv_at hl 0 rfl) ?_
        refine lv_aload_n hx hb dX4_share_29 rfl (lv_at hl 4 rfl) ?_
        refine g_get hx hb ht hown hE hP (by decide) gE_2 uX4 rfl 0 (by decide) m_68 rfl rfl dX4_share_30 ?_
        refine lv_icmp_ge (tgt := 94) hx hb dX4_share_33 (by decide) (fun c6 => ?_) (fun c6 => ?_)
        · have h := g_ift c6 h
          exact hKL5 _ _ _ _ _ _ _ h hP hS (lv_sub hl [0, 1, 2, 3, 4, 5, 6, 7] rfl)
        · have h := g_iff c6 h
          refine lv_iload hx hb dX4_share_36 (lv_at hl 3 rfl) ?_
          refine lv_aload_n hx hb dX4_share_38 rfl (lv_at hl 4 rfl) ?_
          refine g_get hx hb ht hown hE hP (by decide) gE_2 uX4 rfl 1 (by decide) m_70 rfl rfl dX4_share_39 ?_
          refine lv_iload hx hb dX4_share_42 (lv_at hl 0 rfl) ?_
          obtain ⟨i7, h⟩ := g_ix h
          refine g_iald hx hb hE hP (by decide) rfl (by decide) i7 dX4_share_44 ?_
          refine lv_iload_n hx hb dX4_share_45 rfl (lv_at hl 6 rfl) ?_
          refine lv_imul hx hb dX4_share_46 ?_
          refine lv_iload_n hx hb dX4_share_47 rfl (lv_at hl 7 rfl) ?_
          obtain ⟨d8, h⟩ := g_gd h
          refine lv_idiv hx hb dX4_share_48 d8 ?_
          refine lv_isub hx hb dX4_share_49 ?_
          refine lv_topi (fun x9 ex9 => ?_)
          have h := g_nm ex9 h
          refine lv_istore (lv' := [(4, .int x9), (7, .int l5_7), (6, .int x4), (5, .int l5_5), (0, .ref (G.2.2.1 2)), (1, .int a1), (2, .int a2), (3, .int a3)]) hx hb dX4_share_50 hl (by decide) rfl (fun ls hl => ?_)
          refine lv_aload_n hx hb dX4_share_52 rfl (lv_at hl 4 rfl) ?_
          refine g_get hx hb ht hown hE hP (by decide) gE_2 uX4 rfl 1 (by decide) m_70 rfl rfl dX4_share_53 ?_
          refine lv_iload hx hb dX4_share_56 (lv_at hl 1 rfl) ?_
          obtain ⟨i10, h⟩ := g_ix h
          refine g_iald hx hb hE hP (by decide) rfl (by decide) i10 dX4_share_58 ?_
          refine lv_iload_n hx hb dX4_share_59 rfl (lv_at hl 6 rfl) ?_
          refine lv_imul hx hb dX4_share_60 ?_
          refine lv_iload_n hx hb dX4_share_61 rfl (lv_at hl 7 rfl) ?_
          obtain ⟨d11, h⟩ := g_gd h
          refine lv_irem hx hb dX4_share_62 d11 ?_
          refine lv_topi (fun x12 ex12 => ?_)
          have h := g_nm ex12 h
          refine lv_istore (lv' := [(8, .int x12), (4, .int x9), (7, .int l5_7), (6, .int x4), (5, .int l5_5), (0, .ref (G.2.2.1 2)), (1, .int a1), (2, .int a2), (3, .int a3)]) hx hb dX4_share_63 hl (by decide) rfl (fun ls hl => ?_)
          refine lv_iload hx hb dX4_share_65 (lv_at hl 0 rfl) ?_
          refine lv_iload hx hb dX4_share_67 (lv_at hl 3 rfl) ?_
          refine lv_icmp_gt (tgt := 85) hx hb dX4_share_69 (by decide) (fun c13 => ?_) (fun c13 => ?_)
          · have h := g_ift c13 h
            obtain ⟨x14, ex14⟩ : ∃ y : Int32, y = l5_5 + 1 := ⟨_, rfl⟩
            have h := g_nm ex14 h
            refine lv_iinc (v := x14) (lv' := [(5, .int x14), (8, .int x12), (4, .int x9), (7, .int l5_7), (6, .int x4), (0, .ref (G.2.2.1 2)), (1, .int a1), (2, .int a2), (3, .int a3)]) hx hb dX4_share_85 hl (k := 4) rfl (by rw [ex14]; rfl) (by decide) rfl (fun ls hl => ?_)
            obtain ⟨x15, ex15⟩ : ∃ y : Int32, y = l5_7 + 1 := ⟨_, rfl⟩
            have h := g_nm ex15 h
            refine lv_iinc (v := x15) (lv' := [(7, .int x15), (5, .int x14), (8, .int x12), (4, .int x9), (6, .int x4), (0, .ref (G.2.2.1 2)), (1, .int a1), (2, .int a2), (3, .int a3)]) hx hb dX4_share_88 hl (k := 3) rfl (by rw [ex15]; rfl) (by decide) rfl (fun ls hl => ?_)
            refine lv_goto (tgt := 27) hx hb dX4_share_91 (by decide) ?_
            exact ihL5 _ _ _ _ _ _ _ h hP hS (lv_sub hl [0, 4, 1, 3, 5, 6, 7, 8] rfl)
          · have h := g_iff c13 h
            refine lv_iload hx hb dX4_share_72 (lv_at hl 0 rfl) ?_
            refine lv_iload hx hb dX4_share_74 (lv_at hl 3 rfl) ?_
            refine lv_icmp_ne (tgt := 88) hx hb dX4_share_76 (by decide) (fun c16 => ?_) (fun c16 => ?_)
            · have h := g_iff c16 h
              obtain ⟨x17, ex17⟩ : ∃ y : Int32, y = l5_7 + 1 := ⟨_, rfl⟩
              have h := g_nm ex17 h
              refine lv_iinc (v := x17) (lv' := [(7, .int x17), (8, .int x12), (4, .int x9), (6, .int x4), (5, .int l5_5), (0, .ref (G.2.2.1 2)), (1, .int a1), (2, .int a2), (3, .int a3)]) hx hb dX4_share_88 hl (k := 2) rfl (by rw [ex17]; rfl) (by decide) rfl (fun ls hl => ?_)
              refine lv_goto (tgt := 27) hx hb dX4_share_91 (by decide) ?_
              exact ihL5 _ _ _ _ _ _ _ h hP hS (lv_sub hl [0, 3, 4, 2, 5, 6, 7, 8] rfl)
            · have h := g_ift c16 h
              refine lv_iload hx hb dX4_share_79 (lv_at hl 2 rfl) ?_
              refine lv_iload_n hx hb dX4_share_81 rfl (lv_at hl 6 rfl) ?_
              refine lv_icmp_ge (tgt := 88) hx hb dX4_share_82 (by decide) (fun c18 => ?_) (fun c18 => ?_)
              · have h := g_ift c18 h
                obtain ⟨x19, ex19⟩ : ∃ y : Int32, y = l5_7 + 1 := ⟨_, rfl⟩
                have h := g_nm ex19 h
                refine lv_iinc (v := x19) (lv' := [(7, .int x19), (8, .int x12), (4, .int x9), (6, .int x4), (5, .int l5_5), (0, .ref (G.2.2.1 2)), (1, .int a1), (2, .int a2), (3, .int a3)]) hx hb dX4_share_88 hl (k := 2) rfl (by rw [ex19]; rfl) (by decide) rfl (fun ls hl => ?_)
                refine lv_goto (tgt := 27) hx hb dX4_share_91 (by decide) ?_
                exact ihL5 _ _ _ _ _ _ _ h hP hS (lv_sub hl [0, 3, 4, 2, 5, 6, 7, 8] rfl)
              · have h := g_iff c18 h
                obtain ⟨x20, ex20⟩ : ∃ y : Int32, y = l5_5 + 1 := ⟨_, rfl⟩
                have h := g_nm ex20 h
                refine lv_iinc (v := x20) (lv' := [(5, .int x20), (8, .int x12), (4, .int x9), (7, .int l5_7), (6, .int x4), (0, .ref (G.2.2.1 2)), (1, .int a1), (2, .int a2), (3, .int a3)]) hx hb dX4_share_85 hl (k := 4) rfl (by rw [ex20]; rfl) (by decide) rfl (fun ls hl => ?_)
                obtain ⟨x21, ex21⟩ : ∃ y : Int32, y = l5_7 + 1 := ⟨_, rfl⟩
                have h := g_nm ex21 h
                refine lv_iinc (v := x21) (lv' := [(7, .int x21), (5, .int x20), (8, .int x12), (4, .int x9), (6, .int x4), (0, .ref (G.2.2.1 2)), (1, .int a1), (2, .int a2), (3, .int a3)]) hx hb dX4_share_88 hl (k := 3) rfl (by rw [ex21]; rfl) (by decide) rfl (fun ls hl => ?_)
                refine lv_goto (tgt := 27) hx hb dX4_share_91 (by decide) ?_
                exact ihL5 _ _ _ _ _ _ _ h hP hS (lv_sub hl [0, 4, 1, 3, 5, 6, 7, 8] rfl)
    refine LPL5 _ (fun z22 z23 z24 σ25 H locs ls h hP hS hl => ?_) gFu _ _ _ _ _ _ _ h hP hS (lv_sub hl [0, 1, 2, 3, 4, 5, 6, 7] rfl)
    refine lv_aload_n hx hb dX4_share_94 rfl (lv_at hl 4 rfl) ?_
    refine g_get hx hb ht hown hE hP (by decide) gE_2 uX4 rfl 1 (by decide) m_70 rfl rfl dX4_share_95 ?_
    refine lv_iload_n hx hb dX4_share_98 rfl (lv_at hl 5 rfl) ?_
    obtain ⟨i26, h⟩ := g_ix h
    refine g_iald hx hb hE hP (by decide) rfl (by decide) i26 dX4_share_99 ?_
    refine lv_iload_n hx hb dX4_share_100 rfl (lv_at hl 6 rfl) ?_
    refine lv_imul hx hb dX4_share_101 ?_
    refine lv_iload_n hx hb dX4_share_102 rfl (lv_at hl 7 rfl) ?_
    obtain ⟨d27, h⟩ := g_gd h
    refine lv_idiv hx hb dX4_share_103 d27 ?_
    refine lv_iload hx hb dX4_share_104 (lv_at hl 2 rfl) ?_
    refine lv_iload hx hb dX4_share_106 (lv_at hl 3 rfl) ?_
    refine lv_icmp_ge (tgt := 115) hx hb dX4_share_108 (by decide) (fun c28 => ?_) (fun c28 => ?_)
    · have h := g_ift c28 h
      refine lv_iconst (v := 0) hx hb dX4_share_115 (by decide) ?_
      refine lv_iadd hx hb dX4_share_116 ?_
      exact g_iret hx hb hr hlk hE hP hS h dX4_share_117
    · have h := g_iff c28 h
      refine lv_iconst (v := 1) hx hb dX4_share_111 (by decide) ?_
      refine lv_goto (tgt := 116) hx hb dX4_share_112 (by decide) ?_
      refine lv_iadd hx hb dX4_share_116 ?_
      exact g_iret hx hb hr hlk hE hP hS h dX4_share_117
  · have h := g_iff c1 h
    refine lv_iconst (v := 0) hx hb dX4_share_4 (by decide) ?_
    exact g_iret hx hb hr hlk hE hP hS h dX4_share_5

def M_X5_has (a1 : Int32) (σ : gSt) : gO :=
  if a1 < 0 then (some (0, σ)) else (if (σ 11 0) ≤ a1 then (some (0, σ)) else (some (1, σ)))
set_option maxHeartbeats 4000000 in
set_option maxRecDepth 100000 in
theorem c_X5_has (l : Launch) (G : gPar) (a1 : Int32) (σ : gSt) {r : Int32} {σ' : gSt} (h : M_X5_has a1 σ = some (r, σ')) : gC l G yX5_has cX5_has 2 (some .boolean) 0 0 [.ref (G.2.2.1 11), .int a1] σ r σ' := by
  refine gC_of (by decide) (Nat.le_of_ble_eq_true rfl) ?_
  intro p e s m below meth c hx hb hr ht hown hlk hml hE hP ls hl
  have hS : va_S (gA G) s.heap s.heap [] := va_S.rf
  have hl : lv_has ls 2 [(0, .ref (G.2.2.1 11)), (1, .int a1)] := hl
  unfold M_X5_has at h
  refine lv_iload_n hx hb dX5_has_0 rfl (lv_at hl 1 rfl) ?_
  refine lv_if_lt (tgt := 16) hx hb dX5_has_1 (by decide) (fun c1 => ?_) (fun c1 => ?_)
  · have h := g_ift c1 h
    refine lv_iconst (v := 0) hx hb dX5_has_16 (by decide) ?_
    exact g_zret hx hb hr hlk hE hP hS (by decide) h dX5_has_17
  · have h := g_iff c1 h
    refine lv_iload_n hx hb dX5_has_4 rfl (lv_at hl 1 rfl) ?_
    refine lv_aload_n hx hb dX5_has_5 rfl (lv_at hl 0 rfl) ?_
    refine g_get hx hb ht hown hE hP (by decide) gE_11 uX5 rfl 0 (by decide) m_87 rfl rfl dX5_has_6 ?_
    refine lv_icmp_ge (tgt := 16) hx hb dX5_has_9 (by decide) (fun c2 => ?_) (fun c2 => ?_)
    · have h := g_ift c2 h
      refine lv_iconst (v := 0) hx hb dX5_has_16 (by decide) ?_
      exact g_zret hx hb hr hlk hE hP hS (by decide) h dX5_has_17
    · have h := g_iff c2 h
      refine lv_iconst (v := 1) hx hb dX5_has_12 (by decide) ?_
      refine lv_goto (tgt := 17) hx hb dX5_has_13 (by decide) ?_
      exact g_zret hx hb hr hlk hE hP hS (by decide) h dX5_has_17

def M_X5_add (a1 a2 a3 : Int32) (σ : gSt) : gO :=
  gIx 10 (σ 11 0) (gNm (gUp σ 12 (σ 11 0).toNatClampNeg a1) (fun σ2 => gIx 10 (σ2 11 0) (gNm (gUp σ2 13 (σ2 11 0).toNatClampNeg a2) (fun σ4 => gIx 10 (σ4 11 0) (gNm (gUp σ4 14 (σ4 11 0).toNatClampNeg a3) (fun σ6 => gIx 10 (σ6 11 0) (gNm (gUp σ6 15 (σ6 11 0).toNatClampNeg (-1)) (fun σ8 => gIx 10 (σ8 11 0) (gNm (gUp σ8 16 (σ8 11 0).toNatClampNeg 0) (fun σ10 => gNm (gUp σ10 11 0 ((σ10 11 0) + 1)) (fun σ11 => some (((σ11 11 0) - 1), σ11))))))))))))
set_option maxHeartbeats 4000000 in
set_option maxRecDepth 100000 in
theorem c_X5_add (l : Launch) (G : gPar) (a1 a2 a3 : Int32) (σ : gSt) {r : Int32} {σ' : gSt} (h : M_X5_add a1 a2 a3 σ = some (r, σ')) : gC l G yX5_add cX5_add 4 (some .int) 0 0 [.ref (G.2.2.1 11), .int a1, .int a2, .int a3] σ r σ' := by
  refine gC_of (by decide) (Nat.le_of_ble_eq_true rfl) ?_
  intro p e s m below meth c hx hb hr ht hown hlk hml hE hP ls hl
  have hS : va_S (gA G) s.heap s.heap [] := va_S.rf
  have hl : lv_has ls 4 [(0, .ref (G.2.2.1 11)), (1, .int a1), (2, .int a2), (3, .int a3)] := hl
  unfold M_X5_add at h
  refine lv_aload_n hx hb dX5_add_0 rfl (lv_at hl 0 rfl) ?_
  refine g_get hx hb ht hown hE hP (by decide) gE_11 uX5 rfl 1 (by decide) m_90 rfl rfl dX5_add_1 ?_
  refine lv_aload_n hx hb dX5_add_4 rfl (lv_at hl 0 rfl) ?_
  refine g_get hx hb ht hown hE hP (by decide) gE_11 uX5 rfl 0 (by decide) m_87 rfl rfl dX5_add_5 ?_
  refine lv_iload_n hx hb dX5_add_8 rfl (lv_at hl 1 rfl) ?_
  obtain ⟨i1, h⟩ := g_ix h
  refine g_iast hx hb hE hP hS (by decide) rfl (by decide) i1 dX5_add_9 (fun H locs σ2 eσ2 hP hS => ?_)
  have h := g_nm eσ2 h
  refine lv_aload_n hx hb dX5_add_10 rfl (lv_at hl 0 rfl) ?_
  refine g_get hx hb ht hown hE hP (by decide) gE_11 uX5 rfl 2 (by decide) m_93 rfl rfl dX5_add_11 ?_
  refine lv_aload_n hx hb dX5_add_14 rfl (lv_at hl 0 rfl) ?_
  refine g_get hx hb ht hown hE hP (by decide) gE_11 uX5 rfl 0 (by decide) m_87 rfl rfl dX5_add_15 ?_
  refine lv_iload_n hx hb dX5_add_18 rfl (lv_at hl 2 rfl) ?_
  obtain ⟨i3, h⟩ := g_ix h
  refine g_iast hx hb hE hP hS (by decide) rfl (by decide) i3 dX5_add_19 (fun H locs σ4 eσ4 hP hS => ?_)
  have h := g_nm eσ4 h
  refine lv_aload_n hx hb dX5_add_20 rfl (lv_at hl 0 rfl) ?_
  refine g_get hx hb ht hown hE hP (by decide) gE_11 uX5 rfl 3 (by decide) m_95 rfl rfl dX5_add_21 ?_
  refine lv_aload_n hx hb dX5_add_24 rfl (lv_at hl 0 rfl) ?_
  refine g_get hx hb ht hown hE hP (by decide) gE_11 uX5 rfl 0 (by decide) m_87 rfl rfl dX5_add_25 ?_
  refine lv_iload_n hx hb dX5_add_28 rfl (lv_at hl 3 rfl) ?_
  obtain ⟨i5, h⟩ := g_ix h
  refine g_iast hx hb hE hP hS (by decide) rfl (by decide) i5 dX5_add_29 (fun H locs σ6 eσ6 hP hS => ?_)
  have h := g_nm eσ6 h
  refine lv_aload_n hx hb dX5_add_30 rfl (lv_at hl 0 rfl) ?_
  refine g_get hx hb ht hown hE hP (by decide) gE_11 uX5 rfl 4 (by decide) m_97 rfl rfl dX5_add_31 ?_
  refine lv_aload_n hx hb dX5_add_34 rfl (lv_at hl 0 rfl) ?_
  refine g_get hx hb ht hown hE hP (by decide) gE_11 uX5 rfl 0 (by decide) m_87 rfl rfl dX5_add_35 ?_
  refine lv_iconst (v := (-1)) hx hb dX5_add_38 (by decide) ?_
  obtain ⟨i7, h⟩ := g_ix h
  refine g_iast hx hb hE hP hS (by decide) rfl (by decide) i7 dX5_add_39 (fun H locs σ8 eσ8 hP hS => ?_)
  have h := g_nm eσ8 h
  refine lv_aload_n hx hb dX5_add_40 rfl (lv_at hl 0 rfl) ?_
  refine g_get hx hb ht hown hE hP (by decide) gE_11 uX5 rfl 5 (by decide) m_100 rfl rfl dX5_add_41 ?_
  refine lv_aload_n hx hb dX5_add_44 rfl (lv_at hl 0 rfl) ?_
  refine g_get hx hb ht hown hE hP (by decide) gE_11 uX5 rfl 0 (by decide) m_87 rfl rfl dX5_add_45 ?_
  refine lv_iconst (v := 0) hx hb dX5_add_48 (by decide) ?_
  obtain ⟨i9, h⟩ := g_ix h
  refine g_iast hx hb hE hP hS (by decide) rfl (by decide) i9 dX5_add_49 (fun H locs σ10 eσ10 hP hS => ?_)
  have h := g_nm eσ10 h
  refine lv_aload_n hx hb dX5_add_50 rfl (lv_at hl 0 rfl) ?_
  refine lv_dup hx hb dX5_add_51 rfl ?_
  refine g_get hx hb ht hown hE hP (by decide) gE_11 uX5 rfl 0 (by decide) m_87 rfl rfl dX5_add_52 ?_
  refine lv_iconst (v := 1) hx hb dX5_add_55 (by decide) ?_
  refine lv_iadd hx hb dX5_add_56 ?_
  refine g_put hx hb ht hown hE hP hS (by decide) gE_11 uX5 tyX5_ok nmX5 rfl 0 (by decide) m_87 rfl rfl rfl rfl rfl (Nat.le_of_ble_eq_true rfl) rfl dX5_add_57 (fun H locs σ11 eσ11 hP hS => ?_)
  have h := g_nm eσ11 h
  refine lv_aload_n hx hb dX5_add_60 rfl (lv_at hl 0 rfl) ?_
  refine g_get hx hb ht hown hE hP (by decide) gE_11 uX5 rfl 0 (by decide) m_87 rfl rfl dX5_add_61 ?_
  refine lv_iconst (v := 1) hx hb dX5_add_64 (by decide) ?_
  refine lv_isub hx hb dX5_add_65 ?_
  exact g_iret hx hb hr hlk hE hP hS h dX5_add_66

def L3_X5_isOf (a1 a2 : Int32) : Nat → Int32 → Int32 → gSt → (Int32 → Int32 → gSt → gO) → gO
  | 0, _, _, _, _ => none
  | nL3 + 1, l3_4, l3_3, σL3, kL3 =>
    if 4 ≤ l3_4 then (kL3 l3_4 l3_3 σL3) else (if l3_3 < 0 then (kL3 l3_4 l3_3 σL3) else (if l3_3 = a2 then (some (1, σL3)) else (gIx 4 l3_3 (gNm ((gKO (l3_3 : Int32).toNatClampNeg) : Int32) (fun x8 => gNm (l3_4 + 1 : Int32) (fun x9 => L3_X5_isOf a1 a2 nL3 x9 x8 σL3 kL3))))))
def M_X5_isOf (a1 a2 : Int32) (σ : gSt) : gO :=
  gIx 10 a1 (gNm ((σ 12 a1.toNatClampNeg) : Int32) (fun x2 => L3_X5_isOf a1 a2 gFu 0 x2 σ (fun z10 z11 σ12 => some (0, σ12))))
set_option maxHeartbeats 4000000 in
set_option maxRecDepth 100000 in
theorem c_X5_isOf (l : Launch) (G : gPar) (a1 a2 : Int32) (σ : gSt) {r : Int32} {σ' : gSt} (h : M_X5_isOf a1 a2 σ = some (r, σ')) : gC l G yX5_isOf cX5_isOf 5 (some .boolean) 0 0 [.ref (G.2.2.1 11), .int a1, .int a2] σ r σ' := by
  refine gC_of (by decide) (Nat.le_of_ble_eq_true rfl) ?_
  intro p e s m below meth c hx hb hr ht hown hlk hml hE hP ls hl
  have hS : va_S (gA G) s.heap s.heap [] := va_S.rf
  have hl : lv_has ls 5 [(0, .ref (G.2.2.1 11)), (1, .int a1), (2, .int a2)] := hl
  unfold M_X5_isOf at h
  refine lv_aload_n hx hb dX5_isOf_0 rfl (lv_at hl 0 rfl) ?_
  refine g_get hx hb ht hown hE hP (by decide) gE_11 uX5 rfl 1 (by decide) m_90 rfl rfl dX5_isOf_1 ?_
  refine lv_iload_n hx hb dX5_isOf_4 rfl (lv_at hl 1 rfl) ?_
  obtain ⟨i1, h⟩ := g_ix h
  refine g_iald hx hb hE hP (by decide) rfl (by decide) i1 dX5_isOf_5 ?_
  refine lv_topi (fun x2 ex2 => ?_)
  have h := g_nm ex2 h
  refine lv_istore_n (lv' := [(3, .int x2), (0, .ref (G.2.2.1 11)), (1, .int a1), (2, .int a2)]) hx hb dX5_isOf_6 rfl hl (by decide) rfl (fun ls hl => ?_)
  refine lv_iconst (v := 0) hx hb dX5_isOf_7 (by decide) ?_
  refine lv_istore (lv' := [(4, .int 0), (3, .int x2), (0, .ref (G.2.2.1 11)), (1, .int a1), (2, .int a2)]) hx hb dX5_isOf_8 hl (by decide) rfl (fun ls hl => ?_)
  have LPL3 : ∀ (kL3 : Int32 → Int32 → gSt → gO), (∀ (l3_4 l3_3 : Int32) (σL3 : gSt) (H : Heap) (locs : List Loc) (ls : Array Slot), kL3 l3_4 l3_3 σL3 = some (r, σ') → gW G σL3 H → va_S (gA G) s.heap H locs → lv_has ls 5 [(4, .int l3_4), (3, .int l3_3), (0, .ref (G.2.2.1 11)), (1, .int a1), (2, .int a2)] → W p l e (gRm 0 0) s m ([.ref (G.2.2.1 11), .int a1, .int a2].toArray) below meth c H locs 0 0 (MQ below (gQ G r σ') ([.ref (G.2.2.1 11), .int a1, .int a2].toArray) s 0 0 (gA G)) (F0 m 42 ls [])) → ∀ (nL3 : Nat) (l3_4 l3_3 : Int32) (σL3 : gSt) (H : Heap) (locs : List Loc) (ls : Array Slot), L3_X5_isOf a1 a2 nL3 l3_4 l3_3 σL3 kL3 = some (r, σ') → gW G σL3 H → va_S (gA G) s.heap H locs → lv_has ls 5 [(4, .int l3_4), (3, .int l3_3), (0, .ref (G.2.2.1 11)), (1, .int a1), (2, .int a2)] → W p l e (gRm 0 0) s m ([.ref (G.2.2.1 11), .int a1, .int a2].toArray) below meth c H locs 0 0 (MQ below (gQ G r σ') ([.ref (G.2.2.1 11), .int a1, .int a2].toArray) s 0 0 (gA G)) (F0 m 10 ls []) := by
    intro kL3 hKL3 nL3
    induction nL3 with
    | zero =>
      intro l3_4 l3_3 σL3 H locs ls h
      cases h
    | succ nL3 ihL3 =>
      intro l3_4 l3_3 σL3 H locs ls h hP hS hl
      rw [L3_X5_isOf] at h
      refine lv_iload hx hb dX5_isOf_10 (lv_at hl 0 rfl) ?_
      refine g_kget hx hb ht hown hE hS m_403 dX5_isOf_12 ?_
      refine g_klen hx hb hE hS dX5_isOf_15 ?_
      refine lv_icmp_ge (tgt := 42) hx hb dX5_isOf_16 (by decide) (fun c4 => ?_) (fun c4 => ?_)
      · have h := g_ift c4 h
        exact hKL3 _ _ _ _ _ _ h hP hS (lv_sub hl [0, 1, 2, 3, 4] rfl)
      · have h := g_iff c4 h
        refine lv_iload_n hx hb dX5_isOf_19 rfl (lv_at hl 1 rfl) ?_
        refine lv_if_lt (tgt := 42) hx hb dX5_isOf_20 (by decide) (fun c5 => ?_) (fun c5 => ?_)
        · have h := g_ift c5 h
          exact hKL3 _ _ _ _ _ _ h hP hS (lv_sub hl [0, 1, 2, 3, 4] rfl)
        · have h := g_iff c5 h
          refine lv_iload_n hx hb dX5_isOf_23 rfl (lv_at hl 1 rfl) ?_
          refine lv_iload_n hx hb dX5_isOf_24 rfl (lv_at hl 4 rfl) ?_
          refine lv_icmp_ne (tgt := 30) hx hb dX5_isOf_25 (by decide) (fun c6 => ?_) (fun c6 => ?_)
          · have h := g_iff c6 h
            refine g_kget hx hb ht hown hE hS m_403 dX5_isOf_30 ?_
            refine lv_iload_n hx hb dX5_isOf_33 rfl (lv_at hl 1 rfl) ?_
            obtain ⟨i7, h⟩ := g_ix h
            refine g_kald hx hb hE hS i7 dX5_isOf_34 ?_
            refine lv_topi (fun x8 ex8 => ?_)
            have h := g_nm ex8 h
            refine lv_istore_n (lv' := [(3, .int x8), (4, .int l3_4), (0, .ref (G.2.2.1 11)), (1, .int a1), (2, .int a2)]) hx hb dX5_isOf_35 rfl hl (by decide) rfl (fun ls hl => ?_)
            obtain ⟨x9, ex9⟩ : ∃ y : Int32, y = l3_4 + 1 := ⟨_, rfl⟩
            have h := g_nm ex9 h
            refine lv_iinc (v := x9) (lv' := [(4, .int x9), (3, .int x8), (0, .ref (G.2.2.1 11)), (1, .int a1), (2, .int a2)]) hx hb dX5_isOf_36 hl (k := 1) rfl (by rw [ex9]; rfl) (by decide) rfl (fun ls hl => ?_)
            refine lv_goto (tgt := 10) hx hb dX5_isOf_39 (by decide) ?_
            exact ihL3 _ _ _ _ _ _ h hP hS (lv_sub hl [0, 1, 2, 3, 4] rfl)
          · have h := g_ift c6 h
            refine lv_iconst (v := 1) hx hb dX5_isOf_28 (by decide) ?_
            exact g_zret hx hb hr hlk hE hP hS (by decide) h dX5_isOf_29
  refine LPL3 _ (fun z10 z11 σ12 H locs ls h hP hS hl => ?_) gFu _ _ _ _ _ _ h hP hS (lv_sub hl [0, 1, 2, 3, 4] rfl)
  refine lv_iconst (v := 0) hx hb dX5_isOf_42 (by decide) ?_
  exact g_zret hx hb hr hlk hE hP hS (by decide) h dX5_isOf_43

def L1_X5_comesTo (a1 a2 : Int32) : Nat → Int32 → Int32 → gSt → (Int32 → Int32 → gSt → gO) → gO
  | 0, _, _, _, _ => none
  | nL1 + 1, l1_4, l1_3, σL1, kL1 =>
    if 10 ≤ l1_4 then (kL1 l1_4 l1_3 σL1) else (gBd (M_X5_has l1_3 σL1) (fun r4 σ3 => if r4 = 0 then (kL1 l1_4 l1_3 σ3) else (if l1_3 = a2 then (some (1, σ3)) else (gIx 10 l1_3 (gNm ((σ3 15 l1_3.toNatClampNeg) : Int32) (fun x8 => gNm (l1_4 + 1 : Int32) (fun x9 => L1_X5_comesTo a1 a2 nL1 x9 x8 σ3 kL1)))))))
def M_X5_comesTo (a1 a2 : Int32) (σ : gSt) : gO :=
  L1_X5_comesTo a1 a2 gFu 0 a1 σ (fun z10 z11 σ12 => some (0, σ12))
set_option maxHeartbeats 4000000 in
set_option maxRecDepth 100000 in
theorem c_X5_comesTo (l : Launch) (G : gPar) (a1 a2 : Int32) (σ : gSt) {r : Int32} {σ' : gSt} (h : M_X5_comesTo a1 a2 σ = some (r, σ')) : gC l G yX5_comesTo cX5_comesTo 5 (some .boolean) 1 21 [.ref (G.2.2.1 11), .int a1, .int a2] σ r σ' := by
  refine gC_of (by decide) (Nat.le_of_ble_eq_true rfl) ?_
  intro p e s m below meth c hx hb hr ht hown hlk hml hE hP ls hl
  have hS : va_S (gA G) s.heap s.heap [] := va_S.rf
  have hl : lv_has ls 5 [(0, .ref (G.2.2.1 11)), (1, .int a1), (2, .int a2)] := hl
  unfold M_X5_comesTo at h
  refine lv_iload_n hx hb dX5_comesTo_0 rfl (lv_at hl 1 rfl) ?_
  refine lv_istore_n (lv' := [(3, .int a1), (0, .ref (G.2.2.1 11)), (1, .int a1), (2, .int a2)]) hx hb dX5_comesTo_1 rfl hl (by decide) rfl (fun ls hl => ?_)
  refine lv_iconst (v := 0) hx hb dX5_comesTo_2 (by decide) ?_
  refine lv_istore (lv' := [(4, .int 0), (3, .int a1), (0, .ref (G.2.2.1 11)), (1, .int a1), (2, .int a2)]) hx hb dX5_comesTo_3 hl (by decide) rfl (fun ls hl => ?_)
  have LPL1 : ∀ (kL1 : Int32 → Int32 → gSt → gO), (∀ (l1_4 l1_3 : Int32) (σL1 : gSt) (H : Heap) (locs : List Loc) (ls : Array Slot), kL1 l1_4 l1_3 σL1 = some (r, σ') → gW G σL1 H → va_S (gA G) s.heap H locs → lv_has ls 5 [(4, .int l1_4), (3, .int l1_3), (0, .ref (G.2.2.1 11)), (1, .int a1), (2, .int a2)] → W p l e (gRm 1 21) s m ([.ref (G.2.2.1 11), .int a1, .int a2].toArray) below meth c H locs 0 0 (MQ below (gQ G r σ') ([.ref (G.2.2.1 11), .int a1, .int a2].toArray) s 0 0 (gA G)) (F0 m 40 ls [])) → ∀ (nL1 : Nat) (l1_4 l1_3 : Int32) (σL1 : gSt) (H : Heap) (locs : List Loc) (ls : Array Slot), L1_X5_comesTo a1 a2 nL1 l1_4 l1_3 σL1 kL1 = some (r, σ') → gW G σL1 H → va_S (gA G) s.heap H locs → lv_has ls 5 [(4, .int l1_4), (3, .int l1_3), (0, .ref (G.2.2.1 11)), (1, .int a1), (2, .int a2)] → W p l e (gRm 1 21) s m ([.ref (G.2.2.1 11), .int a1, .int a2].toArray) below meth c H locs 0 0 (MQ below (gQ G r σ') ([.ref (G.2.2.1 11), .int a1, .int a2].toArray) s 0 0 (gA G)) (F0 m 5 ls []) := by
    intro kL1 hKL1 nL1
    induction nL1 with
    | zero =>
      intro l1_4 l1_3 σL1 H locs ls h
      cases h
    | succ nL1 ihL1 =>
      intro l1_4 l1_3 σL1 H locs ls h hP hS hl
      rw [L1_X5_comesTo] at h
      refine lv_iload hx hb dX5_comesTo_5 (lv_at hl 0 rfl) ?_
      refine lv_bipush (v := 10) hx hb dX5_comesTo_7 (by decide) ?_
      refine lv_icmp_ge (tgt := 40) hx hb dX5_comesTo_9 (by decide) (fun c2 => ?_) (fun c2 => ?_)
      · have h := g_ift c2 h
        exact hKL1 _ _ _ _ _ _ h hP hS (lv_sub hl [0, 1, 2, 3, 4] rfl)
      · have h := g_iff c2 h
        refine lv_aload_n hx hb dX5_comesTo_12 rfl (lv_at hl 2 rfl) ?_
        refine lv_iload_n hx hb dX5_comesTo_13 rfl (lv_at hl 1 rfl) ?_
        obtain ⟨r4, σ3, hcr4, h⟩ := g_bd h
        refine g_callV (As := [.int l1_3]) (n := 1) hx hb hml hown ht (c_X5_has l G _ _ hcr4) m_414 m_396 m_397 m_34 m_398 (by decide +kernel) (by decide) gE_11 rfl hE hP hS (fun _ h => h) (fun _ _ h => h) rfl hl.1 rfl (Nat.le_of_ble_eq_true rfl) dX5_comesTo_14 ⟨by decide, by decide⟩ ⟨Nat.zero_le _, Nat.zero_le _⟩ (fun H locs hP hS => ?_)
        refine lv_if_eq (tgt := 40) hx hb dX5_comesTo_17 (by decide) (fun c5 => ?_) (fun c5 => ?_)
        · have h := g_ift c5 h
          exact hKL1 _ _ _ _ _ _ h hP hS (lv_sub hl [0, 1, 2, 3, 4] rfl)
        · have h := g_iff c5 h
          refine lv_iload_n hx hb dX5_comesTo_20 rfl (lv_at hl 1 rfl) ?_
          refine lv_iload_n hx hb dX5_comesTo_21 rfl (lv_at hl 4 rfl) ?_
          refine lv_icmp_ne (tgt := 27) hx hb dX5_comesTo_22 (by decide) (fun c6 => ?_) (fun c6 => ?_)
          · have h := g_iff c6 h
            refine lv_aload_n hx hb dX5_comesTo_27 rfl (lv_at hl 2 rfl) ?_
            refine g_get hx hb ht hown hE hP (by decide) gE_11 uX5 rfl 4 (by decide) m_97 rfl rfl dX5_comesTo_28 ?_
            refine lv_iload_n hx hb dX5_comesTo_31 rfl (lv_at hl 1 rfl) ?_
            obtain ⟨i7, h⟩ := g_ix h
            refine g_iald hx hb hE hP (by decide) rfl (by decide) i7 dX5_comesTo_32 ?_
            refine lv_topi (fun x8 ex8 => ?_)
            have h := g_nm ex8 h
            refine lv_istore_n (lv' := [(3, .int x8), (4, .int l1_4), (0, .ref (G.2.2.1 11)), (1, .int a1), (2, .int a2)]) hx hb dX5_comesTo_33 rfl hl (by decide) rfl (fun ls hl => ?_)
            obtain ⟨x9, ex9⟩ : ∃ y : Int32, y = l1_4 + 1 := ⟨_, rfl⟩
            have h := g_nm ex9 h
            refine lv_iinc (v := x9) (lv' := [(4, .int x9), (3, .int x8), (0, .ref (G.2.2.1 11)), (1, .int a1), (2, .int a2)]) hx hb dX5_comesTo_34 hl (k := 1) rfl (by rw [ex9]; rfl) (by decide) rfl (fun ls hl => ?_)
            refine lv_goto (tgt := 5) hx hb dX5_comesTo_37 (by decide) ?_
            exact ihL1 _ _ _ _ _ _ h hP hS (lv_sub hl [0, 1, 2, 3, 4] rfl)
          · have h := g_ift c6 h
            refine lv_iconst (v := 1) hx hb dX5_comesTo_25 (by decide) ?_
            exact g_zret hx hb hr hlk hE hP hS (by decide) h dX5_comesTo_26
  refine LPL1 _ (fun z10 z11 σ12 H locs ls h hP hS hl => ?_) gFu _ _ _ _ _ _ h hP hS (lv_sub hl [0, 1, 2, 3, 4] rfl)
  refine lv_iconst (v := 0) hx hb dX5_comesTo_40 (by decide) ?_
  exact g_zret hx hb hr hlk hE hP hS (by decide) h dX5_comesTo_41

def M_X5_follow (a1 a2 a3 : Int32) (σ : gSt) : gO :=
  gIx 10 a1 (gNm ((σ 15 a1.toNatClampNeg) : Int32) (fun x2 => gIx 10 a1 (gNm (gUp σ 15 a1.toNatClampNeg a2) (fun σ4 => gIx 10 a1 (gNm (gUp σ4 16 a1.toNatClampNeg a3) (fun σ6 => some (x2, σ6)))))))
set_option maxHeartbeats 4000000 in
set_option maxRecDepth 100000 in
theorem c_X5_follow (l : Launch) (G : gPar) (a1 a2 a3 : Int32) (σ : gSt) {r : Int32} {σ' : gSt} (h : M_X5_follow a1 a2 a3 σ = some (r, σ')) : gC l G yX5_follow cX5_follow 5 (some .int) 0 0 [.ref (G.2.2.1 11), .int a1, .int a2, .int a3] σ r σ' := by
  refine gC_of (by decide) (Nat.le_of_ble_eq_true rfl) ?_
  intro p e s m below meth c hx hb hr ht hown hlk hml hE hP ls hl
  have hS : va_S (gA G) s.heap s.heap [] := va_S.rf
  have hl : lv_has ls 5 [(0, .ref (G.2.2.1 11)), (1, .int a1), (2, .int a2), (3, .int a3)] := hl
  unfold M_X5_follow at h
  refine lv_aload_n hx hb dX5_follow_0 rfl (lv_at hl 0 rfl) ?_
  refine g_get hx hb ht hown hE hP (by decide) gE_11 uX5 rfl 4 (by decide) m_97 rfl rfl dX5_follow_1 ?_
  refine lv_iload_n hx hb dX5_follow_4 rfl (lv_at hl 1 rfl) ?_
  obtain ⟨i1, h⟩ := g_ix h
  refine g_iald hx hb hE hP (by decide) rfl (by decide) i1 dX5_follow_5 ?_
  refine lv_topi (fun x2 ex2 => ?_)
  have h := g_nm ex2 h
  refine lv_istore (lv' := [(4, .int x2), (0, .ref (G.2.2.1 11)), (1, .int a1), (2, .int a2), (3, .int a3)]) hx hb dX5_follow_6 hl (by decide) rfl (fun ls hl => ?_)
  refine lv_aload_n hx hb dX5_follow_8 rfl (lv_at hl 1 rfl) ?_
  refine g_get hx hb ht hown hE hP (by decide) gE_11 uX5 rfl 4 (by decide) m_97 rfl rfl dX5_follow_9 ?_
  refine lv_iload_n hx hb dX5_follow_12 rfl (lv_at hl 2 rfl) ?_
  refine lv_iload_n hx hb dX5_follow_13 rfl (lv_at hl 3 rfl) ?_
  obtain ⟨i3, h⟩ := g_ix h
  refine g_iast hx hb hE hP hS (by decide) rfl (by decide) i3 dX5_follow_14 (fun H locs σ4 eσ4 hP hS => ?_)
  have h := g_nm eσ4 h
  refine lv_aload_n hx hb dX5_follow_15 rfl (lv_at hl 1 rfl) ?_
  refine g_get hx hb ht hown hE hP (by decide) gE_11 uX5 rfl 5 (by decide) m_100 rfl rfl dX5_follow_16 ?_
  refine lv_iload_n hx hb dX5_follow_19 rfl (lv_at hl 2 rfl) ?_
  refine lv_iload_n hx hb dX5_follow_20 rfl (lv_at hl 4 rfl) ?_
  obtain ⟨i5, h⟩ := g_ix h
  refine g_iast hx hb hE hP hS (by decide) rfl (by decide) i5 dX5_follow_21 (fun H locs σ6 eσ6 hP hS => ?_)
  have h := g_nm eσ6 h
  refine lv_iload hx hb dX5_follow_22 (lv_at hl 0 rfl) ?_
  exact g_iret hx hb hr hlk hE hP hS h dX5_follow_24

def M_X5_isWifeOf (a1 a2 : Int32) (σ : gSt) : gO :=
  gIx 10 a1 (if (σ 12 a1.toNatClampNeg) = 1 then (gIx 10 a1 (if (σ 15 a1.toNatClampNeg) = a2 then (some (1, σ)) else (some (0, σ)))) else (some (0, σ)))
set_option maxHeartbeats 4000000 in
set_option maxRecDepth 100000 in
theorem c_X5_isWifeOf (l : Launch) (G : gPar) (a1 a2 : Int32) (σ : gSt) {r : Int32} {σ' : gSt} (h : M_X5_isWifeOf a1 a2 σ = some (r, σ')) : gC l G yX5_isWifeOf cX5_isWifeOf 3 (some .boolean) 0 0 [.ref (G.2.2.1 11), .int a1, .int a2] σ r σ' := by
  refine gC_of (by decide) (Nat.le_of_ble_eq_true rfl) ?_
  intro p e s m below meth c hx hb hr ht hown hlk hml hE hP ls hl
  have hS : va_S (gA G) s.heap s.heap [] := va_S.rf
  have hl : lv_has ls 3 [(0, .ref (G.2.2.1 11)), (1, .int a1), (2, .int a2)] := hl
  unfold M_X5_isWifeOf at h
  refine lv_aload_n hx hb dX5_isWifeOf_0 rfl (lv_at hl 0 rfl) ?_
  refine g_get hx hb ht hown hE hP (by decide) gE_11 uX5 rfl 1 (by decide) m_90 rfl rfl dX5_isWifeOf_1 ?_
  refine lv_iload_n hx hb dX5_isWifeOf_4 rfl (lv_at hl 1 rfl) ?_
  obtain ⟨i1, h⟩ := g_ix h
  refine g_iald hx hb hE hP (by decide) rfl (by decide) i1 dX5_isWifeOf_5 ?_
  refine lv_iconst (v := 1) hx hb dX5_isWifeOf_6 (by decide) ?_
  refine lv_icmp_ne (tgt := 24) hx hb dX5_isWifeOf_7 (by decide) (fun c2 => ?_) (fun c2 => ?_)
  · have h := g_iff c2 h
    refine lv_iconst (v := 0) hx hb dX5_isWifeOf_24 (by decide) ?_
    exact g_zret hx hb hr hlk hE hP hS (by decide) h dX5_isWifeOf_25
  · have h := g_ift c2 h
    refine lv_aload_n hx hb dX5_isWifeOf_10 rfl (lv_at hl 0 rfl) ?_
    refine g_get hx hb ht hown hE hP (by decide) gE_11 uX5 rfl 4 (by decide) m_97 rfl rfl dX5_isWifeOf_11 ?_
    refine lv_iload_n hx hb dX5_isWifeOf_14 rfl (lv_at hl 1 rfl) ?_
    obtain ⟨i3, h⟩ := g_ix h
    refine g_iald hx hb hE hP (by decide) rfl (by decide) i3 dX5_isWifeOf_15 ?_
    refine lv_iload_n hx hb dX5_isWifeOf_16 rfl (lv_at hl 2 rfl) ?_
    refine lv_icmp_ne (tgt := 24) hx hb dX5_isWifeOf_17 (by decide) (fun c4 => ?_) (fun c4 => ?_)
    · have h := g_iff c4 h
      refine lv_iconst (v := 0) hx hb dX5_isWifeOf_24 (by decide) ?_
      exact g_zret hx hb hr hlk hE hP hS (by decide) h dX5_isWifeOf_25
    · have h := g_ift c4 h
      refine lv_iconst (v := 1) hx hb dX5_isWifeOf_20 (by decide) ?_
      refine lv_goto (tgt := 25) hx hb dX5_isWifeOf_21 (by decide) ?_
      exact g_zret hx hb hr hlk hE hP hS (by decide) h dX5_isWifeOf_25

def M_X1_has (a1 : Int32) (σ : gSt) : gO :=
  if a1 < 0 then (some (0, σ)) else (if (σ 17 0) ≤ a1 then (some (0, σ)) else (some (1, σ)))
set_option maxHeartbeats 4000000 in
set_option maxRecDepth 100000 in
theorem c_X1_has (l : Launch) (G : gPar) (a1 : Int32) (σ : gSt) {r : Int32} {σ' : gSt} (h : M_X1_has a1 σ = some (r, σ')) : gC l G yX1_has cX1_has 2 (some .boolean) 0 0 [.ref (G.2.2.1 17), .int a1] σ r σ' := by
  refine gC_of (by decide) (Nat.le_of_ble_eq_true rfl) ?_
  intro p e s m below meth c hx hb hr ht hown hlk hml hE hP ls hl
  have hS : va_S (gA G) s.heap s.heap [] := va_S.rf
  have hl : lv_has ls 2 [(0, .ref (G.2.2.1 17)), (1, .int a1)] := hl
  unfold M_X1_has at h
  refine lv_iload_n hx hb dX1_has_0 rfl (lv_at hl 1 rfl) ?_
  refine lv_if_lt (tgt := 16) hx hb dX1_has_1 (by decide) (fun c1 => ?_) (fun c1 => ?_)
  · have h := g_ift c1 h
    refine lv_iconst (v := 0) hx hb dX1_has_16 (by decide) ?_
    exact g_zret hx hb hr hlk hE hP hS (by decide) h dX1_has_17
  · have h := g_iff c1 h
    refine lv_iload_n hx hb dX1_has_4 rfl (lv_at hl 1 rfl) ?_
    refine lv_aload_n hx hb dX1_has_5 rfl (lv_at hl 0 rfl) ?_
    refine g_get hx hb ht hown hE hP (by decide) gE_17 uX1 rfl 0 (by decide) m_121 rfl rfl dX1_has_6 ?_
    refine lv_icmp_ge (tgt := 16) hx hb dX1_has_9 (by decide) (fun c2 => ?_) (fun c2 => ?_)
    · have h := g_ift c2 h
      refine lv_iconst (v := 0) hx hb dX1_has_16 (by decide) ?_
      exact g_zret hx hb hr hlk hE hP hS (by decide) h dX1_has_17
    · have h := g_iff c2 h
      refine lv_iconst (v := 1) hx hb dX1_has_12 (by decide) ?_
      refine lv_goto (tgt := 17) hx hb dX1_has_13 (by decide) ?_
      exact g_zret hx hb hr hlk hE hP hS (by decide) h dX1_has_17

def M_X1_add (a1 a2 a3 a4 a5 a6 a7 : Int32) (σ : gSt) : gO :=
  gIx 24 (σ 17 0) (gNm (gUp σ 18 (σ 17 0).toNatClampNeg a1) (fun σ2 => gIx 24 (σ2 17 0) (gNm (gUp σ2 19 (σ2 17 0).toNatClampNeg a2) (fun σ4 => gIx 24 (σ4 17 0) (gNm (gUp σ4 20 (σ4 17 0).toNatClampNeg a3) (fun σ6 => gIx 24 (σ6 17 0) (gNm (gUp σ6 21 (σ6 17 0).toNatClampNeg a4) (fun σ8 => gIx 24 (σ8 17 0) (gNm (gUp σ8 22 (σ8 17 0).toNatClampNeg a5) (fun σ10 => gIx 24 (σ10 17 0) (gNm (gUp σ10 23 (σ10 17 0).toNatClampNeg a6) (fun σ12 => gIx 24 (σ12 17 0) (gNm (gUp σ12 24 (σ12 17 0).toNatClampNeg a7) (fun σ14 => gIx 24 (σ14 17 0) (gNm (gUp σ14 25 (σ14 17 0).toNatClampNeg 0) (fun σ16 => gNm (gUp σ16 17 0 ((σ16 17 0) + 1)) (fun σ17 => some (((σ17 17 0) - 1), σ17))))))))))))))))))
set_option maxHeartbeats 4000000 in
set_option maxRecDepth 100000 in
theorem c_X1_add (l : Launch) (G : gPar) (a1 a2 a3 a4 a5 a6 a7 : Int32) (σ : gSt) {r : Int32} {σ' : gSt} (h : M_X1_add a1 a2 a3 a4 a5 a6 a7 σ = some (r, σ')) : gC l G yX1_add cX1_add 8 (some .int) 0 0 [.ref (G.2.2.1 17), .int a1, .int a2, .int a3, .int a4, .int a5, .int a6, .int a7] σ r σ' := by
  refine gC_of (by decide) (Nat.le_of_ble_eq_true rfl) ?_
  intro p e s m below meth c hx hb hr ht hown hlk hml hE hP ls hl
  have hS : va_S (gA G) s.heap s.heap [] := va_S.rf
  have hl : lv_has ls 8 [(0, .ref (G.2.2.1 17)), (1, .int a1), (2, .int a2), (3, .int a3), (4, .int a4), (5, .int a5), (6, .int a6), (7, .int a7)] := hl
  unfold M_X1_add at h
  refine lv_aload_n hx hb dX1_add_0 rfl (lv_at hl 0 rfl) ?_
  refine g_get hx hb ht hown hE hP (by decide) gE_17 uX1 rfl 1 (by decide) m_124 rfl rfl dX1_add_1 ?_
  refine lv_aload_n hx hb dX1_add_4 rfl (lv_at hl 0 rfl) ?_
  refine g_get hx hb ht hown hE hP (by decide) gE_17 uX1 rfl 0 (by decide) m_121 rfl rfl dX1_add_5 ?_
  refine lv_iload_n hx hb dX1_add_8 rfl (lv_at hl 1 rfl) ?_
  obtain ⟨i1, h⟩ := g_ix h
  refine g_iast hx hb hE hP hS (by decide) rfl (by decide) i1 dX1_add_9 (fun H locs σ2 eσ2 hP hS => ?_)
  have h := g_nm eσ2 h
  refine lv_aload_n hx hb dX1_add_10 rfl (lv_at hl 0 rfl) ?_
  refine g_get hx hb ht hown hE hP (by decide) gE_17 uX1 rfl 2 (by decide) m_126 rfl rfl dX1_add_11 ?_
  refine lv_aload_n hx hb dX1_add_14 rfl (lv_at hl 0 rfl) ?_
  refine g_get hx hb ht hown hE hP (by decide) gE_17 uX1 rfl 0 (by decide) m_121 rfl rfl dX1_add_15 ?_
  refine lv_iload_n hx hb dX1_add_18 rfl (lv_at hl 2 rfl) ?_
  obtain ⟨i3, h⟩ := g_ix h
  refine g_iast hx hb hE hP hS (by decide) rfl (by decide) i3 dX1_add_19 (fun H locs σ4 eσ4 hP hS => ?_)
  have h := g_nm eσ4 h
  refine lv_aload_n hx hb dX1_add_20 rfl (lv_at hl 0 rfl) ?_
  refine g_get hx hb ht hown hE hP (by decide) gE_17 uX1 rfl 3 (by decide) m_128 rfl rfl dX1_add_21 ?_
  refine lv_aload_n hx hb dX1_add_24 rfl (lv_at hl 0 rfl) ?_
  refine g_get hx hb ht hown hE hP (by decide) gE_17 uX1 rfl 0 (by decide) m_121 rfl rfl dX1_add_25 ?_
  refine lv_iload_n hx hb dX1_add_28 rfl (lv_at hl 3 rfl) ?_
  obtain ⟨i5, h⟩ := g_ix h
  refine g_iast hx hb hE hP hS (by decide) rfl (by decide) i5 dX1_add_29 (fun H locs σ6 eσ6 hP hS => ?_)
  have h := g_nm eσ6 h
  refine lv_aload_n hx hb dX1_add_30 rfl (lv_at hl 0 rfl) ?_
  refine g_get hx hb ht hown hE hP (by decide) gE_17 uX1 rfl 4 (by decide) m_130 rfl rfl dX1_add_31 ?_
  refine lv_aload_n hx hb dX1_add_34 rfl (lv_at hl 0 rfl) ?_
  refine g_get hx hb ht hown hE hP (by decide) gE_17 uX1 rfl 0 (by decide) m_121 rfl rfl dX1_add_35 ?_
  refine lv_iload hx hb dX1_add_38 (lv_at hl 4 rfl) ?_
  obtain ⟨i7, h⟩ := g_ix h
  refine g_iast hx hb hE hP hS (by decide) rfl (by decide) i7 dX1_add_40 (fun H locs σ8 eσ8 hP hS => ?_)
  have h := g_nm eσ8 h
  refine lv_aload_n hx hb dX1_add_41 rfl (lv_at hl 0 rfl) ?_
  refine g_get hx hb ht hown hE hP (by decide) gE_17 uX1 rfl 5 (by decide) m_132 rfl rfl dX1_add_42 ?_
  refine lv_aload_n hx hb dX1_add_45 rfl (lv_at hl 0 rfl) ?_
  refine g_get hx hb ht hown hE hP (by decide) gE_17 uX1 rfl 0 (by decide) m_121 rfl rfl dX1_add_46 ?_
  refine lv_iload hx hb dX1_add_49 (lv_at hl 5 rfl) ?_
  obtain ⟨i9, h⟩ := g_ix h
  refine g_iast hx hb hE hP hS (by decide) rfl (by decide) i9 dX1_add_51 (fun H locs σ10 eσ10 hP hS => ?_)
  have h := g_nm eσ10 h
  refine lv_aload_n hx hb dX1_add_52 rfl (lv_at hl 0 rfl) ?_
  refine g_get hx hb ht hown hE hP (by decide) gE_17 uX1 rfl 6 (by decide) m_134 rfl rfl dX1_add_53 ?_
  refine lv_aload_n hx hb dX1_add_56 rfl (lv_at hl 0 rfl) ?_
  refine g_get hx hb ht hown hE hP (by decide) gE_17 uX1 rfl 0 (by decide) m_121 rfl rfl dX1_add_57 ?_
  refine lv_iload hx hb dX1_add_60 (lv_at hl 6 rfl) ?_
  obtain ⟨i11, h⟩ := g_ix h
  refine g_iast hx hb hE hP hS (by decide) rfl (by decide) i11 dX1_add_62 (fun H locs σ12 eσ12 hP hS => ?_)
  have h := g_nm eσ12 h
  refine lv_aload_n hx hb dX1_add_63 rfl (lv_at hl 0 rfl) ?_
  refine g_get hx hb ht hown hE hP (by decide) gE_17 uX1 rfl 7 (by decide) m_136 rfl rfl dX1_add_64 ?_
  refine lv_aload_n hx hb dX1_add_67 rfl (lv_at hl 0 rfl) ?_
  refine g_get hx hb ht hown hE hP (by decide) gE_17 uX1 rfl 0 (by decide) m_121 rfl rfl dX1_add_68 ?_
  refine lv_iload hx hb dX1_add_71 (lv_at hl 7 rfl) ?_
  obtain ⟨i13, h⟩ := g_ix h
  refine g_iast hx hb hE hP hS (by decide) rfl (by decide) i13 dX1_add_73 (fun H locs σ14 eσ14 hP hS => ?_)
  have h := g_nm eσ14 h
  refine lv_aload_n hx hb dX1_add_74 rfl (lv_at hl 0 rfl) ?_
  refine g_get hx hb ht hown hE hP (by decide) gE_17 uX1 rfl 8 (by decide) m_138 rfl rfl dX1_add_75 ?_
  refine lv_aload_n hx hb dX1_add_78 rfl (lv_at hl 0 rfl) ?_
  refine g_get hx hb ht hown hE hP (by decide) gE_17 uX1 rfl 0 (by decide) m_121 rfl rfl dX1_add_79 ?_
  refine lv_iconst (v := 0) hx hb dX1_add_82 (by decide) ?_
  obtain ⟨i15, h⟩ := g_ix h
  refine g_iast hx hb hE hP hS (by decide) rfl (by decide) i15 dX1_add_83 (fun H locs σ16 eσ16 hP hS => ?_)
  have h := g_nm eσ16 h
  refine lv_aload_n hx hb dX1_add_84 rfl (lv_at hl 0 rfl) ?_
  refine lv_dup hx hb dX1_add_85 rfl ?_
  refine g_get hx hb ht hown hE hP (by decide) gE_17 uX1 rfl 0 (by decide) m_121 rfl rfl dX1_add_86 ?_
  refine lv_iconst (v := 1) hx hb dX1_add_89 (by decide) ?_
  refine lv_iadd hx hb dX1_add_90 ?_
  refine g_put hx hb ht hown hE hP hS (by decide) gE_17 uX1 tyX1_ok nmX1 rfl 0 (by decide) m_121 rfl rfl rfl rfl rfl (Nat.le_of_ble_eq_true rfl) rfl dX1_add_91 (fun H locs σ17 eσ17 hP hS => ?_)
  have h := g_nm eσ17 h
  refine lv_aload_n hx hb dX1_add_94 rfl (lv_at hl 0 rfl) ?_
  refine g_get hx hb ht hown hE hP (by decide) gE_17 uX1 rfl 0 (by decide) m_121 rfl rfl dX1_add_95 ?_
  refine lv_iconst (v := 1) hx hb dX1_add_98 (by decide) ?_
  refine lv_isub hx hb dX1_add_99 ?_
  exact g_iret hx hb hr hlk hE hP hS h dX1_add_100

def M_X1_isDoubted (a1 : Int32) (σ : gSt) : gO :=
  gIx 24 a1 (if (σ 25 a1.toNatClampNeg) = 1 then (some (1, σ)) else (some (0, σ)))
set_option maxHeartbeats 4000000 in
set_option maxRecDepth 100000 in
theorem c_X1_isDoubted (l : Launch) (G : gPar) (a1 : Int32) (σ : gSt) {r : Int32} {σ' : gSt} (h : M_X1_isDoubted a1 σ = some (r, σ')) : gC l G yX1_isDoubted cX1_isDoubted 2 (some .boolean) 0 0 [.ref (G.2.2.1 17), .int a1] σ r σ' := by
  refine gC_of (by decide) (Nat.le_of_ble_eq_true rfl) ?_
  intro p e s m below meth c hx hb hr ht hown hlk hml hE hP ls hl
  have hS : va_S (gA G) s.heap s.heap [] := va_S.rf
  have hl : lv_has ls 2 [(0, .ref (G.2.2.1 17)), (1, .int a1)] := hl
  unfold M_X1_isDoubted at h
  refine lv_aload_n hx hb dX1_isDoubted_0 rfl (lv_at hl 0 rfl) ?_
  refine g_get hx hb ht hown hE hP (by decide) gE_17 uX1 rfl 8 (by decide) m_138 rfl rfl dX1_isDoubted_1 ?_
  refine lv_iload_n hx hb dX1_isDoubted_4 rfl (lv_at hl 1 rfl) ?_
  obtain ⟨i1, h⟩ := g_ix h
  refine g_iald hx hb hE hP (by decide) rfl (by decide) i1 dX1_isDoubted_5 ?_
  refine lv_iconst (v := 1) hx hb dX1_isDoubted_6 (by decide) ?_
  refine lv_icmp_ne (tgt := 14) hx hb dX1_isDoubted_7 (by decide) (fun c2 => ?_) (fun c2 => ?_)
  · have h := g_iff c2 h
    refine lv_iconst (v := 0) hx hb dX1_isDoubted_14 (by decide) ?_
    exact g_zret hx hb hr hlk hE hP hS (by decide) h dX1_isDoubted_15
  · have h := g_ift c2 h
    refine lv_iconst (v := 1) hx hb dX1_isDoubted_10 (by decide) ?_
    refine lv_goto (tgt := 15) hx hb dX1_isDoubted_11 (by decide) ?_
    exact g_zret hx hb hr hlk hE hP hS (by decide) h dX1_isDoubted_15

def L1_X1_countDoubted : Nat → Int32 → Int32 → gSt → (Int32 → Int32 → gSt → gO) → gO
  | 0, _, _, _, _ => none
  | nL1 + 1, l1_2, l1_1, σL1, kL1 =>
    if (σL1 17 0) ≤ l1_2 then (kL1 l1_2 l1_1 σL1) else (gIx 24 l1_2 (gNm ((l1_1 + (σL1 25 l1_2.toNatClampNeg)) : Int32) (fun x4 => gNm (l1_2 + 1 : Int32) (fun x5 => L1_X1_countDoubted nL1 x5 x4 σL1 kL1))))
def M_X1_countDoubted (σ : gSt) : gO :=
  L1_X1_countDoubted gFu 0 0 σ (fun z6 z7 σ8 => some (z7, σ8))
set_option maxHeartbeats 4000000 in
set_option maxRecDepth 100000 in
theorem c_X1_countDoubted (l : Launch) (G : gPar) (σ : gSt) {r : Int32} {σ' : gSt} (h : M_X1_countDoubted σ = some (r, σ')) : gC l G yX1_countDoubted cX1_countDoubted 3 (some .int) 0 0 [.ref (G.2.2.1 17)] σ r σ' := by
  refine gC_of (by decide) (Nat.le_of_ble_eq_true rfl) ?_
  intro p e s m below meth c hx hb hr ht hown hlk hml hE hP ls hl
  have hS : va_S (gA G) s.heap s.heap [] := va_S.rf
  have hl : lv_has ls 3 [(0, .ref (G.2.2.1 17))] := hl
  unfold M_X1_countDoubted at h
  refine lv_iconst (v := 0) hx hb dX1_countDoubted_0 (by decide) ?_
  refine lv_istore_n (lv' := [(1, .int 0), (0, .ref (G.2.2.1 17))]) hx hb dX1_countDoubted_1 rfl hl (by decide) rfl (fun ls hl => ?_)
  refine lv_iconst (v := 0) hx hb dX1_countDoubted_2 (by decide) ?_
  refine lv_istore_n (lv' := [(2, .int 0), (1, .int 0), (0, .ref (G.2.2.1 17))]) hx hb dX1_countDoubted_3 rfl hl (by decide) rfl (fun ls hl => ?_)
  have LPL1 : ∀ (kL1 : Int32 → Int32 → gSt → gO), (∀ (l1_2 l1_1 : Int32) (σL1 : gSt) (H : Heap) (locs : List Loc) (ls : Array Slot), kL1 l1_2 l1_1 σL1 = some (r, σ') → gW G σL1 H → va_S (gA G) s.heap H locs → lv_has ls 3 [(2, .int l1_2), (1, .int l1_1), (0, .ref (G.2.2.1 17))] → W p l e (gRm 0 0) s m ([.ref (G.2.2.1 17)].toArray) below meth c H locs 0 0 (MQ below (gQ G r σ') ([.ref (G.2.2.1 17)].toArray) s 0 0 (gA G)) (F0 m 27 ls [])) → ∀ (nL1 : Nat) (l1_2 l1_1 : Int32) (σL1 : gSt) (H : Heap) (locs : List Loc) (ls : Array Slot), L1_X1_countDoubted nL1 l1_2 l1_1 σL1 kL1 = some (r, σ') → gW G σL1 H → va_S (gA G) s.heap H locs → lv_has ls 3 [(2, .int l1_2), (1, .int l1_1), (0, .ref (G.2.2.1 17))] → W p l e (gRm 0 0) s m ([.ref (G.2.2.1 17)].toArray) below meth c H locs 0 0 (MQ below (gQ G r σ') ([.ref (G.2.2.1 17)].toArray) s 0 0 (gA G)) (F0 m 4 ls []) := by
    intro kL1 hKL1 nL1
    induction nL1 with
    | zero =>
      intro l1_2 l1_1 σL1 H locs ls h
      cases h
    | succ nL1 ihL1 =>
      intro l1_2 l1_1 σL1 H locs ls h hP hS hl
      rw [L1_X1_countDoubted] at h
      refine lv_iload_n hx hb dX1_countDoubted_4 rfl (lv_at hl 0 rfl) ?_
      refine lv_aload_n hx hb dX1_countDoubted_5 rfl (lv_at hl 2 rfl) ?_
      refine g_get hx hb ht hown hE hP (by decide) gE_17 uX1 rfl 0 (by decide) m_121 rfl rfl dX1_countDoubted_6 ?_
      refine lv_icmp_ge (tgt := 27) hx hb dX1_countDoubted_9 (by decide) (fun c2 => ?_) (fun c2 => ?_)
      · have h := g_ift c2 h
        exact hKL1 _ _ _ _ _ _ h hP hS (lv_sub hl [0, 1, 2] rfl)
      · have h := g_iff c2 h
        refine lv_iload_n hx hb dX1_countDoubted_12 rfl (lv_at hl 1 rfl) ?_
        refine lv_aload_n hx hb dX1_countDoubted_13 rfl (lv_at hl 2 rfl) ?_
        refine g_get hx hb ht hown hE hP (by decide) gE_17 uX1 rfl 8 (by decide) m_138 rfl rfl dX1_countDoubted_14 ?_
        refine lv_iload_n hx hb dX1_countDoubted_17 rfl (lv_at hl 0 rfl) ?_
        obtain ⟨i3, h⟩ := g_ix h
        refine g_iald hx hb hE hP (by decide) rfl (by decide) i3 dX1_countDoubted_18 ?_
        refine lv_iadd hx hb dX1_countDoubted_19 ?_
        refine lv_topi (fun x4 ex4 => ?_)
        have h := g_nm ex4 h
        refine lv_istore_n (lv' := [(1, .int x4), (2, .int l1_2), (0, .ref (G.2.2.1 17))]) hx hb dX1_countDoubted_20 rfl hl (by decide) rfl (fun ls hl => ?_)
        obtain ⟨x5, ex5⟩ : ∃ y : Int32, y = l1_2 + 1 := ⟨_, rfl⟩
        have h := g_nm ex5 h
        refine lv_iinc (v := x5) (lv' := [(2, .int x5), (1, .int x4), (0, .ref (G.2.2.1 17))]) hx hb dX1_countDoubted_21 hl (k := 1) rfl (by rw [ex5]; rfl) (by decide) rfl (fun ls hl => ?_)
        refine lv_goto (tgt := 4) hx hb dX1_countDoubted_24 (by decide) ?_
        exact ihL1 _ _ _ _ _ _ h hP hS (lv_sub hl [0, 1, 2] rfl)
  refine LPL1 _ (fun z6 z7 σ8 H locs ls h hP hS hl => ?_) gFu _ _ _ _ _ _ h hP hS (lv_sub hl [0, 1, 2] rfl)
  refine lv_iload_n hx hb dX1_countDoubted_27 rfl (lv_at hl 1 rfl) ?_
  exact g_iret hx hb hr hlk hE hP hS h dX1_countDoubted_28

def M_X2_has (a1 : Int32) (σ : gSt) : gO :=
  if a1 < 0 then (some (0, σ)) else (if (σ 26 0) ≤ a1 then (some (0, σ)) else (some (1, σ)))
set_option maxHeartbeats 4000000 in
set_option maxRecDepth 100000 in
theorem c_X2_has (l : Launch) (G : gPar) (a1 : Int32) (σ : gSt) {r : Int32} {σ' : gSt} (h : M_X2_has a1 σ = some (r, σ')) : gC l G yX2_has cX2_has 2 (some .boolean) 0 0 [.ref (G.2.2.1 26), .int a1] σ r σ' := by
  refine gC_of (by decide) (Nat.le_of_ble_eq_true rfl) ?_
  intro p e s m below meth c hx hb hr ht hown hlk hml hE hP ls hl
  have hS : va_S (gA G) s.heap s.heap [] := va_S.rf
  have hl : lv_has ls 2 [(0, .ref (G.2.2.1 26)), (1, .int a1)] := hl
  unfold M_X2_has at h
  refine lv_iload_n hx hb dX2_has_0 rfl (lv_at hl 1 rfl) ?_
  refine lv_if_lt (tgt := 16) hx hb dX2_has_1 (by decide) (fun c1 => ?_) (fun c1 => ?_)
  · have h := g_ift c1 h
    refine lv_iconst (v := 0) hx hb dX2_has_16 (by decide) ?_
    exact g_zret hx hb hr hlk hE hP hS (by decide) h dX2_has_17
  · have h := g_iff c1 h
    refine lv_iload_n hx hb dX2_has_4 rfl (lv_at hl 1 rfl) ?_
    refine lv_aload_n hx hb dX2_has_5 rfl (lv_at hl 0 rfl) ?_
    refine g_get hx hb ht hown hE hP (by decide) gE_26 uX2 rfl 0 (by decide) m_165 rfl rfl dX2_has_6 ?_
    refine lv_icmp_ge (tgt := 16) hx hb dX2_has_9 (by decide) (fun c2 => ?_) (fun c2 => ?_)
    · have h := g_ift c2 h
      refine lv_iconst (v := 0) hx hb dX2_has_16 (by decide) ?_
      exact g_zret hx hb hr hlk hE hP hS (by decide) h dX2_has_17
    · have h := g_iff c2 h
      refine lv_iconst (v := 1) hx hb dX2_has_12 (by decide) ?_
      refine lv_goto (tgt := 17) hx hb dX2_has_13 (by decide) ?_
      exact g_zret hx hb hr hlk hE hP hS (by decide) h dX2_has_17

def M_X2_add (a1 a2 a3 a4 : Int32) (σ : gSt) : gO :=
  gIx 12 (σ 26 0) (gNm (gUp σ 27 (σ 26 0).toNatClampNeg a1) (fun σ2 => gIx 12 (σ2 26 0) (gNm (gUp σ2 28 (σ2 26 0).toNatClampNeg a2) (fun σ4 => gIx 12 (σ4 26 0) (gNm (gUp σ4 29 (σ4 26 0).toNatClampNeg a3) (fun σ6 => gIx 12 (σ6 26 0) (gNm (gUp σ6 30 (σ6 26 0).toNatClampNeg a4) (fun σ8 => gNm (gUp σ8 26 0 ((σ8 26 0) + 1)) (fun σ9 => some (((σ9 26 0) - 1), σ9))))))))))
set_option maxHeartbeats 4000000 in
set_option maxRecDepth 100000 in
theorem c_X2_add (l : Launch) (G : gPar) (a1 a2 a3 a4 : Int32) (σ : gSt) {r : Int32} {σ' : gSt} (h : M_X2_add a1 a2 a3 a4 σ = some (r, σ')) : gC l G yX2_add cX2_add 5 (some .int) 0 0 [.ref (G.2.2.1 26), .int a1, .int a2, .int a3, .int a4] σ r σ' := by
  refine gC_of (by decide) (Nat.le_of_ble_eq_true rfl) ?_
  intro p e s m below meth c hx hb hr ht hown hlk hml hE hP ls hl
  have hS : va_S (gA G) s.heap s.heap [] := va_S.rf
  have hl : lv_has ls 5 [(0, .ref (G.2.2.1 26)), (1, .int a1), (2, .int a2), (3, .int a3), (4, .int a4)] := hl
  unfold M_X2_add at h
  refine lv_aload_n hx hb dX2_add_0 rfl (lv_at hl 0 rfl) ?_
  refine g_get hx hb ht hown hE hP (by decide) gE_26 uX2 rfl 1 (by decide) m_167 rfl rfl dX2_add_1 ?_
  refine lv_aload_n hx hb dX2_add_4 rfl (lv_at hl 0 rfl) ?_
  refine g_get hx hb ht hown hE hP (by decide) gE_26 uX2 rfl 0 (by decide) m_165 rfl rfl dX2_add_5 ?_
  refine lv_iload_n hx hb dX2_add_8 rfl (lv_at hl 1 rfl) ?_
  obtain ⟨i1, h⟩ := g_ix h
  refine g_iast hx hb hE hP hS (by decide) rfl (by decide) i1 dX2_add_9 (fun H locs σ2 eσ2 hP hS => ?_)
  have h := g_nm eσ2 h
  refine lv_aload_n hx hb dX2_add_10 rfl (lv_at hl 0 rfl) ?_
  refine g_get hx hb ht hown hE hP (by decide) gE_26 uX2 rfl 2 (by decide) m_168 rfl rfl dX2_add_11 ?_
  refine lv_aload_n hx hb dX2_add_14 rfl (lv_at hl 0 rfl) ?_
  refine g_get hx hb ht hown hE hP (by decide) gE_26 uX2 rfl 0 (by decide) m_165 rfl rfl dX2_add_15 ?_
  refine lv_iload_n hx hb dX2_add_18 rfl (lv_at hl 2 rfl) ?_
  obtain ⟨i3, h⟩ := g_ix h
  refine g_iast hx hb hE hP hS (by decide) rfl (by decide) i3 dX2_add_19 (fun H locs σ4 eσ4 hP hS => ?_)
  have h := g_nm eσ4 h
  refine lv_aload_n hx hb dX2_add_20 rfl (lv_at hl 0 rfl) ?_
  refine g_get hx hb ht hown hE hP (by decide) gE_26 uX2 rfl 3 (by decide) m_169 rfl rfl dX2_add_21 ?_
  refine lv_aload_n hx hb dX2_add_24 rfl (lv_at hl 0 rfl) ?_
  refine g_get hx hb ht hown hE hP (by decide) gE_26 uX2 rfl 0 (by decide) m_165 rfl rfl dX2_add_25 ?_
  refine lv_iload_n hx hb dX2_add_28 rfl (lv_at hl 3 rfl) ?_
  obtain ⟨i5, h⟩ := g_ix h
  refine g_iast hx hb hE hP hS (by decide) rfl (by decide) i5 dX2_add_29 (fun H locs σ6 eσ6 hP hS => ?_)
  have h := g_nm eσ6 h
  refine lv_aload_n hx hb dX2_add_30 rfl (lv_at hl 0 rfl) ?_
  refine g_get hx hb ht hown hE hP (by decide) gE_26 uX2 rfl 4 (by decide) m_171 rfl rfl dX2_add_31 ?_
  refine lv_aload_n hx hb dX2_add_34 rfl (lv_at hl 0 rfl) ?_
  refine g_get hx hb ht hown hE hP (by decide) gE_26 uX2 rfl 0 (by decide) m_165 rfl rfl dX2_add_35 ?_
  refine lv_iload hx hb dX2_add_38 (lv_at hl 4 rfl) ?_
  obtain ⟨i7, h⟩ := g_ix h
  refine g_iast hx hb hE hP hS (by decide) rfl (by decide) i7 dX2_add_40 (fun H locs σ8 eσ8 hP hS => ?_)
  have h := g_nm eσ8 h
  refine lv_aload_n hx hb dX2_add_41 rfl (lv_at hl 0 rfl) ?_
  refine lv_dup hx hb dX2_add_42 rfl ?_
  refine g_get hx hb ht hown hE hP (by decide) gE_26 uX2 rfl 0 (by decide) m_165 rfl rfl dX2_add_43 ?_
  refine lv_iconst (v := 1) hx hb dX2_add_46 (by decide) ?_
  refine lv_iadd hx hb dX2_add_47 ?_
  refine g_put hx hb ht hown hE hP hS (by decide) gE_26 uX2 tyX2_ok nmX2 rfl 0 (by decide) m_165 rfl rfl rfl rfl rfl (Nat.le_of_ble_eq_true rfl) rfl dX2_add_48 (fun H locs σ9 eσ9 hP hS => ?_)
  have h := g_nm eσ9 h
  refine lv_aload_n hx hb dX2_add_51 rfl (lv_at hl 0 rfl) ?_
  refine g_get hx hb ht hown hE hP (by decide) gE_26 uX2 rfl 0 (by decide) m_165 rfl rfl dX2_add_52 ?_
  refine lv_iconst (v := 1) hx hb dX2_add_55 (by decide) ?_
  refine lv_isub hx hb dX2_add_56 ?_
  exact g_iret hx hb hr hlk hE hP hS h dX2_add_57

def M_X2_rules (a1 a2 a3 : Int32) (σ : gSt) : gO :=
  gIx 12 a1 (if (σ 27 a1.toNatClampNeg) = a2 then (gIx 12 a1 (if a3 < (σ 29 a1.toNatClampNeg) then (some (0, σ)) else (gIx 12 a1 (if (σ 30 a1.toNatClampNeg) < a3 then (some (0, σ)) else (some (1, σ)))))) else (some (0, σ)))
set_option maxHeartbeats 4000000 in
set_option maxRecDepth 100000 in
theorem c_X2_rules (l : Launch) (G : gPar) (a1 a2 a3 : Int32) (σ : gSt) {r : Int32} {σ' : gSt} (h : M_X2_rules a1 a2 a3 σ = some (r, σ')) : gC l G yX2_rules cX2_rules 4 (some .boolean) 0 0 [.ref (G.2.2.1 26), .int a1, .int a2, .int a3] σ r σ' := by
  refine gC_of (by decide) (Nat.le_of_ble_eq_true rfl) ?_
  intro p e s m below meth c hx hb hr ht hown hlk hml hE hP ls hl
  have hS : va_S (gA G) s.heap s.heap [] := va_S.rf
  have hl : lv_has ls 4 [(0, .ref (G.2.2.1 26)), (1, .int a1), (2, .int a2), (3, .int a3)] := hl
  unfold M_X2_rules at h
  refine lv_aload_n hx hb dX2_rules_0 rfl (lv_at hl 0 rfl) ?_
  refine g_get hx hb ht hown hE hP (by decide) gE_26 uX2 rfl 1 (by decide) m_167 rfl rfl dX2_rules_1 ?_
  refine lv_iload_n hx hb dX2_rules_4 rfl (lv_at hl 1 rfl) ?_
  obtain ⟨i1, h⟩ := g_ix h
  refine g_iald hx hb hE hP (by decide) rfl (by decide) i1 dX2_rules_5 ?_
  refine lv_iload_n hx hb dX2_rules_6 rfl (lv_at hl 2 rfl) ?_
  refine lv_icmp_ne (tgt := 34) hx hb dX2_rules_7 (by decide) (fun c2 => ?_) (fun c2 => ?_)
  · have h := g_iff c2 h
    refine lv_iconst (v := 0) hx hb dX2_rules_34 (by decide) ?_
    exact g_zret hx hb hr hlk hE hP hS (by decide) h dX2_rules_35
  · have h := g_ift c2 h
    refine lv_aload_n hx hb dX2_rules_10 rfl (lv_at hl 0 rfl) ?_
    refine g_get hx hb ht hown hE hP (by decide) gE_26 uX2 rfl 3 (by decide) m_169 rfl rfl dX2_rules_11 ?_
    refine lv_iload_n hx hb dX2_rules_14 rfl (lv_at hl 1 rfl) ?_
    obtain ⟨i3, h⟩ := g_ix h
    refine g_iald hx hb hE hP (by decide) rfl (by decide) i3 dX2_rules_15 ?_
    refine lv_iload_n hx hb dX2_rules_16 rfl (lv_at hl 3 rfl) ?_
    refine lv_icmp_gt (tgt := 34) hx hb dX2_rules_17 (by decide) (fun c4 => ?_) (fun c4 => ?_)
    · have h := g_ift c4 h
      refine lv_iconst (v := 0) hx hb dX2_rules_34 (by decide) ?_
      exact g_zret hx hb hr hlk hE hP hS (by decide) h dX2_rules_35
    · have h := g_iff c4 h
      refine lv_iload_n hx hb dX2_rules_20 rfl (lv_at hl 3 rfl) ?_
      refine lv_aload_n hx hb dX2_rules_21 rfl (lv_at hl 0 rfl) ?_
      refine g_get hx hb ht hown hE hP (by decide) gE_26 uX2 rfl 4 (by decide) m_171 rfl rfl dX2_rules_22 ?_
      refine lv_iload_n hx hb dX2_rules_25 rfl (lv_at hl 1 rfl) ?_
      obtain ⟨i5, h⟩ := g_ix h
      refine g_iald hx hb hE hP (by decide) rfl (by decide) i5 dX2_rules_26 ?_
      refine lv_icmp_gt (tgt := 34) hx hb dX2_rules_27 (by decide) (fun c6 => ?_) (fun c6 => ?_)
      · have h := g_ift c6 h
        refine lv_iconst (v := 0) hx hb dX2_rules_34 (by decide) ?_
        exact g_zret hx hb hr hlk hE hP hS (by decide) h dX2_rules_35
      · have h := g_iff c6 h
        refine lv_iconst (v := 1) hx hb dX2_rules_30 (by decide) ?_
        refine lv_goto (tgt := 35) hx hb dX2_rules_31 (by decide) ?_
        exact g_zret hx hb hr hlk hE hP hS (by decide) h dX2_rules_35

def L1_X2_anyRules (a1 a2 : Int32) : Nat → Int32 → gSt → (Int32 → gSt → gO) → gO
  | 0, _, _, _ => none
  | nL1 + 1, l1_3, σL1, kL1 =>
    if (σL1 26 0) ≤ l1_3 then (kL1 l1_3 σL1) else (gBd (M_X2_rules l1_3 a1 a2 σL1) (fun r4 σ3 => if r4 = 0 then (gNm (l1_3 + 1 : Int32) (fun x6 => L1_X2_anyRules a1 a2 nL1 x6 σ3 kL1)) else (some (1, σ3))))
def M_X2_anyRules (a1 a2 : Int32) (σ : gSt) : gO :=
  L1_X2_anyRules a1 a2 gFu 0 σ (fun z7 σ8 => some (0, σ8))
set_option maxHeartbeats 4000000 in
set_option maxRecDepth 100000 in
theorem c_X2_anyRules (l : Launch) (G : gPar) (a1 a2 : Int32) (σ : gSt) {r : Int32} {σ' : gSt} (h : M_X2_anyRules a1 a2 σ = some (r, σ')) : gC l G yX2_anyRules cX2_anyRules 4 (some .boolean) 1 23 [.ref (G.2.2.1 26), .int a1, .int a2] σ r σ' := by
  refine gC_of (by decide) (Nat.le_of_ble_eq_true rfl) ?_
  intro p e s m below meth c hx hb hr ht hown hlk hml hE hP ls hl
  have hS : va_S (gA G) s.heap s.heap [] := va_S.rf
  have hl : lv_has ls 4 [(0, .ref (G.2.2.1 26)), (1, .int a1), (2, .int a2)] := hl
  unfold M_X2_anyRules at h
  refine lv_iconst (v := 0) hx hb dX2_anyRules_0 (by decide) ?_
  refine lv_istore_n (lv' := [(3, .int 0), (0, .ref (G.2.2.1 26)), (1, .int a1), (2, .int a2)]) hx hb dX2_anyRules_1 rfl hl (by decide) rfl (fun ls hl => ?_)
  have LPL1 : ∀ (kL1 : Int32 → gSt → gO), (∀ (l1_3 : Int32) (σL1 : gSt) (H : Heap) (locs : List Loc) (ls : Array Slot), kL1 l1_3 σL1 = some (r, σ') → gW G σL1 H → va_S (gA G) s.heap H locs → lv_has ls 4 [(3, .int l1_3), (0, .ref (G.2.2.1 26)), (1, .int a1), (2, .int a2)] → W p l e (gRm 1 23) s m ([.ref (G.2.2.1 26), .int a1, .int a2].toArray) below meth c H locs 0 0 (MQ below (gQ G r σ') ([.ref (G.2.2.1 26), .int a1, .int a2].toArray) s 0 0 (gA G)) (F0 m 28 ls [])) → ∀ (nL1 : Nat) (l1_3 : Int32) (σL1 : gSt) (H : Heap) (locs : List Loc) (ls : Array Slot), L1_X2_anyRules a1 a2 nL1 l1_3 σL1 kL1 = some (r, σ') → gW G σL1 H → va_S (gA G) s.heap H locs → lv_has ls 4 [(3, .int l1_3), (0, .ref (G.2.2.1 26)), (1, .int a1), (2, .int a2)] → W p l e (gRm 1 23) s m ([.ref (G.2.2.1 26), .int a1, .int a2].toArray) below meth c H locs 0 0 (MQ below (gQ G r σ') ([.ref (G.2.2.1 26), .int a1, .int a2].toArray) s 0 0 (gA G)) (F0 m 2 ls []) := by
    intro kL1 hKL1 nL1
    induction nL1 with
    | zero =>
      intro l1_3 σL1 H locs ls h
      cases h
    | succ nL1 ihL1 =>
      intro l1_3 σL1 H locs ls h hP hS hl
      rw [L1_X2_anyRules] at h
      refine lv_iload_n hx hb dX2_anyRules_2 rfl (lv_at hl 0 rfl) ?_
      refine lv_aload_n hx hb dX2_anyRules_3 rfl (lv_at hl 1 rfl) ?_
      refine g_get hx hb ht hown hE hP (by decide) gE_26 uX2 rfl 0 (by decide) m_165 rfl rfl dX2_anyRules_4 ?_
      refine lv_icmp_ge (tgt := 28) hx hb dX2_anyRules_7 (by decide) (fun c2 => ?_) (fun c2 => ?_)
      · have h := g_ift c2 h
        exact hKL1 _ _ _ _ _ h hP hS (lv_sub hl [0, 1, 2, 3] rfl)
      · have h := g_iff c2 h
        refine lv_aload_n hx hb dX2_anyRules_10 rfl (lv_at hl 1 rfl) ?_
        refine lv_iload_n hx hb dX2_anyRules_11 rfl (lv_at hl 0 rfl) ?_
        refine lv_iload_n hx hb dX2_anyRules_12 rfl (lv_at hl 2 rfl) ?_
        refine lv_iload_n hx hb dX2_anyRules_13 rfl (lv_at hl 3 rfl) ?_
        obtain ⟨r4, σ3, hcr4, h⟩ := g_bd h
        refine g_callV (As := [.int l1_3, .int a1, .int a2]) (n := 3) hx hb hml hown ht (c_X2_rules l G _ _ _ _ hcr4) m_496 m_497 m_498 m_36 m_499 (by decide +kernel) (by decide) gE_26 rfl hE hP hS (fun _ h => h) (fun _ _ h => h) rfl hl.1 rfl (Nat.le_of_ble_eq_true rfl) dX2_anyRules_14 ⟨by decide, by decide⟩ ⟨Nat.zero_le _, Nat.zero_le _⟩ (fun H locs hP hS => ?_)
        refine lv_if_eq (tgt := 22) hx hb dX2_anyRules_17 (by decide) (fun c5 => ?_) (fun c5 => ?_)
        · have h := g_ift c5 h
          obtain ⟨x6, ex6⟩ : ∃ y : Int32, y = l1_3 + 1 := ⟨_, rfl⟩
          have h := g_nm ex6 h
          refine lv_iinc (v := x6) (lv' := [(3, .int x6), (0, .ref (G.2.2.1 26)), (1, .int a1), (2, .int a2)]) hx hb dX2_anyRules_22 hl (k := 0) rfl (by rw [ex6]; rfl) (by decide) rfl (fun ls hl => ?_)
          refine lv_goto (tgt := 2) hx hb dX2_anyRules_25 (by decide) ?_
          exact ihL1 _ _ _ _ _ h hP hS (lv_sub hl [0, 1, 2, 3] rfl)
        · have h := g_iff c5 h
          refine lv_iconst (v := 1) hx hb dX2_anyRules_20 (by decide) ?_
          exact g_zret hx hb hr hlk hE hP hS (by decide) h dX2_anyRules_21
  refine LPL1 _ (fun z7 σ8 H locs ls h hP hS hl => ?_) gFu _ _ _ _ _ h hP hS (lv_sub hl [0, 1, 2, 3] rfl)
  refine lv_iconst (v := 0) hx hb dX2_anyRules_28 (by decide) ?_
  exact g_zret hx hb hr hlk hE hP hS (by decide) h dX2_anyRules_29

def L1_X2_anyAtMost (a1 a2 a3 : Int32) : Nat → Int32 → gSt → (Int32 → gSt → gO) → gO
  | 0, _, _, _ => none
  | nL1 + 1, l1_4, σL1, kL1 =>
    if (σL1 26 0) ≤ l1_4 then (kL1 l1_4 σL1) else (gBd (M_X2_rules l1_4 a1 a2 σL1) (fun r4 σ3 => if r4 = 0 then (gNm (l1_4 + 1 : Int32) (fun x6 => L1_X2_anyAtMost a1 a2 a3 nL1 x6 σ3 kL1)) else (gIx 12 l1_4 (if a3 < (σ3 28 l1_4.toNatClampNeg) then (gNm (l1_4 + 1 : Int32) (fun x9 => L1_X2_anyAtMost a1 a2 a3 nL1 x9 σ3 kL1)) else (some (1, σ3))))))
def M_X2_anyAtMost (a1 a2 a3 : Int32) (σ : gSt) : gO :=
  L1_X2_anyAtMost a1 a2 a3 gFu 0 σ (fun z10 σ11 => some (0, σ11))
set_option maxHeartbeats 4000000 in
set_option maxRecDepth 100000 in
theorem c_X2_anyAtMost (l : Launch) (G : gPar) (a1 a2 a3 : Int32) (σ : gSt) {r : Int32} {σ' : gSt} (h : M_X2_anyAtMost a1 a2 a3 σ = some (r, σ')) : gC l G yX2_anyAtMost cX2_anyAtMost 5 (some .boolean) 1 23 [.ref (G.2.2.1 26), .int a1, .int a2, .int a3] σ r σ' := by
  refine gC_of (by decide) (Nat.le_of_ble_eq_true rfl) ?_
  intro p e s m below meth c hx hb hr ht hown hlk hml hE hP ls hl
  have hS : va_S (gA G) s.heap s.heap [] := va_S.rf
  have hl : lv_has ls 5 [(0, .ref (G.2.2.1 26)), (1, .int a1), (2, .int a2), (3, .int a3)] := hl
  unfold M_X2_anyAtMost at h
  refine lv_iconst (v := 0) hx hb dX2_anyAtMost_0 (by decide) ?_
  refine lv_istore (lv' := [(4, .int 0), (0, .ref (G.2.2.1 26)), (1, .int a1), (2, .int a2), (3, .int a3)]) hx hb dX2_anyAtMost_1 hl (by decide) rfl (fun ls hl => ?_)
  have LPL1 : ∀ (kL1 : Int32 → gSt → gO), (∀ (l1_4 : Int32) (σL1 : gSt) (H : Heap) (locs : List Loc) (ls : Array Slot), kL1 l1_4 σL1 = some (r, σ') → gW G σL1 H → va_S (gA G) s.heap H locs → lv_has ls 5 [(4, .int l1_4), (0, .ref (G.2.2.1 26)), (1, .int a1), (2, .int a2), (3, .int a3)] → W p l e (gRm 1 23) s m ([.ref (G.2.2.1 26), .int a1, .int a2, .int a3].toArray) below meth c H locs 0 0 (MQ below (gQ G r σ') ([.ref (G.2.2.1 26), .int a1, .int a2, .int a3].toArray) s 0 0 (gA G)) (F0 m 42 ls [])) → ∀ (nL1 : Nat) (l1_4 : Int32) (σL1 : gSt) (H : Heap) (locs : List Loc) (ls : Array Slot), L1_X2_anyAtMost a1 a2 a3 nL1 l1_4 σL1 kL1 = some (r, σ') → gW G σL1 H → va_S (gA G) s.heap H locs → lv_has ls 5 [(4, .int l1_4), (0, .ref (G.2.2.1 26)), (1, .int a1), (2, .int a2), (3, .int a3)] → W p l e (gRm 1 23) s m ([.ref (G.2.2.1 26), .int a1, .int a2, .int a3].toArray) below meth c H locs 0 0 (MQ below (gQ G r σ') ([.ref (G.2.2.1 26), .int a1, .int a2, .int a3].toArray) s 0 0 (gA G)) (F0 m 3 ls []) := by
    intro kL1 hKL1 nL1
    induction nL1 with
    | zero =>
      intro l1_4 σL1 H locs ls h
      cases h
    | succ nL1 ihL1 =>
      intro l1_4 σL1 H locs ls h hP hS hl
      rw [L1_X2_anyAtMost] at h
      refine lv_iload hx hb dX2_anyAtMost_3 (lv_at hl 0 rfl) ?_
      refine lv_aload_n hx hb dX2_anyAtMost_5 rfl (lv_at hl 1 rfl) ?_
      refine g_get hx hb ht hown hE hP (by decide) gE_26 uX2 rfl 0 (by decide) m_165 rfl rfl dX2_anyAtMost_6 ?_
      refine lv_icmp_ge (tgt := 42) hx hb dX2_anyAtMost_9 (by decide) (fun c2 => ?_) (fun c2 => ?_)
      · have h := g_ift c2 h
        exact hKL1 _ _ _ _ _ h hP hS (lv_sub hl [0, 1, 2, 3, 4] rfl)
      · have h := g_iff c2 h
        refine lv_aload_n hx hb dX2_anyAtMost_12 rfl (lv_at hl 1 rfl) ?_
        refine lv_iload hx hb dX2_anyAtMost_13 (lv_at hl 0 rfl) ?_
        refine lv_iload_n hx hb dX2_anyAtMost_15 rfl (lv_at hl 2 rfl) ?_
        refine lv_iload_n hx hb dX2_anyAtMost_16 rfl (lv_at hl 3 rfl) ?_
        obtain ⟨r4, σ3, hcr4, h⟩ := g_bd h
        refine g_callV (As := [.int l1_4, .int a1, .int a2]) (n := 3) hx hb hml hown ht (c_X2_rules l G _ _ _ _ hcr4) m_496 m_497 m_498 m_36 m_499 (by decide +kernel) (by decide) gE_26 rfl hE hP hS (fun _ h => h) (fun _ _ h => h) rfl hl.1 rfl (Nat.le_of_ble_eq_true rfl) dX2_anyAtMost_17 ⟨by decide, by decide⟩ ⟨Nat.zero_le _, Nat.zero_le _⟩ (fun H locs hP hS => ?_)
        refine lv_if_eq (tgt := 36) hx hb dX2_anyAtMost_20 (by decide) (fun c5 => ?_) (fun c5 => ?_)
        · have h := g_ift c5 h
          obtain ⟨x6, ex6⟩ : ∃ y : Int32, y = l1_4 + 1 := ⟨_, rfl⟩
          have h := g_nm ex6 h
          refine lv_iinc (v := x6) (lv' := [(4, .int x6), (0, .ref (G.2.2.1 26)), (1, .int a1), (2, .int a2), (3, .int a3)]) hx hb dX2_anyAtMost_36 hl (k := 0) rfl (by rw [ex6]; rfl) (by decide) rfl (fun ls hl => ?_)
          refine lv_goto (tgt := 3) hx hb dX2_anyAtMost_39 (by decide) ?_
          exact ihL1 _ _ _ _ _ h hP hS (lv_sub hl [0, 1, 2, 3, 4] rfl)
        · have h := g_iff c5 h
          refine lv_aload_n hx hb dX2_anyAtMost_23 rfl (lv_at hl 1 rfl) ?_
          refine g_get hx hb ht hown hE hP (by decide) gE_26 uX2 rfl 2 (by decide) m_168 rfl rfl dX2_anyAtMost_24 ?_
          refine lv_iload hx hb dX2_anyAtMost_27 (lv_at hl 0 rfl) ?_
          obtain ⟨i7, h⟩ := g_ix h
          refine g_iald hx hb hE hP (by decide) rfl (by decide) i7 dX2_anyAtMost_29 ?_
          refine lv_iload_n hx hb dX2_anyAtMost_30 rfl (lv_at hl 4 rfl) ?_
          refine lv_icmp_gt (tgt := 36) hx hb dX2_anyAtMost_31 (by decide) (fun c8 => ?_) (fun c8 => ?_)
          · have h := g_ift c8 h
            obtain ⟨x9, ex9⟩ : ∃ y : Int32, y = l1_4 + 1 := ⟨_, rfl⟩
            have h := g_nm ex9 h
            refine lv_iinc (v := x9) (lv' := [(4, .int x9), (0, .ref (G.2.2.1 26)), (1, .int a1), (2, .int a2), (3, .int a3)]) hx hb dX2_anyAtMost_36 hl (k := 0) rfl (by rw [ex9]; rfl) (by decide) rfl (fun ls hl => ?_)
            refine lv_goto (tgt := 3) hx hb dX2_anyAtMost_39 (by decide) ?_
            exact ihL1 _ _ _ _ _ h hP hS (lv_sub hl [0, 1, 2, 3, 4] rfl)
          · have h := g_iff c8 h
            refine lv_iconst (v := 1) hx hb dX2_anyAtMost_34 (by decide) ?_
            exact g_zret hx hb hr hlk hE hP hS (by decide) h dX2_anyAtMost_35
  refine LPL1 _ (fun z10 σ11 H locs ls h hP hS hl => ?_) gFu _ _ _ _ _ h hP hS (lv_sub hl [0, 1, 2, 3, 4] rfl)
  refine lv_iconst (v := 0) hx hb dX2_anyAtMost_42 (by decide) ?_
  exact g_zret hx hb hr hlk hE hP hS (by decide) h dX2_anyAtMost_43

def L1_X2_anyAbove (a1 a2 a3 : Int32) : Nat → Int32 → gSt → (Int32 → gSt → gO) → gO
  | 0, _, _, _ => none
  | nL1 + 1, l1_4, σL1, kL1 =>
    if (σL1 26 0) ≤ l1_4 then (kL1 l1_4 σL1) else (gBd (M_X2_rules l1_4 a1 a2 σL1) (fun r4 σ3 => if r4 = 0 then (gNm (l1_4 + 1 : Int32) (fun x6 => L1_X2_anyAbove a1 a2 a3 nL1 x6 σ3 kL1)) else (gIx 12 l1_4 (if (σ3 28 l1_4.toNatClampNeg) ≤ a3 then (gNm (l1_4 + 1 : Int32) (fun x9 => L1_X2_anyAbove a1 a2 a3 nL1 x9 σ3 kL1)) else (some (1, σ3))))))
def M_X2_anyAbove (a1 a2 a3 : Int32) (σ : gSt) : gO :=
  L1_X2_anyAbove a1 a2 a3 gFu 0 σ (fun z10 σ11 => some (0, σ11))
set_option maxHeartbeats 4000000 in
set_option maxRecDepth 100000 in
theorem c_X2_anyAbove (l : Launch) (G : gPar) (a1 a2 a3 : Int32) (σ : gSt) {r : Int32} {σ' : gSt} (h : M_X2_anyAbove a1 a2 a3 σ = some (r, σ')) : gC l G yX2_anyAbove cX2_anyAbove 5 (some .boolean) 1 23 [.ref (G.2.2.1 26), .int a1, .int a2, .int a3] σ r σ' := by
  refine gC_of (by decide) (Nat.le_of_ble_eq_true rfl) ?_
  intro p e s m below meth c hx hb hr ht hown hlk hml hE hP ls hl
  have hS : va_S (gA G) s.heap s.heap [] := va_S.rf
  have hl : lv_has ls 5 [(0, .ref (G.2.2.1 26)), (1, .int a1), (2, .int a2), (3, .int a3)] := hl
  unfold M_X2_anyAbove at h
  refine lv_iconst (v := 0) hx hb dX2_anyAbove_0 (by decide) ?_
  refine lv_istore (lv' := [(4, .int 0), (0, .ref (G.2.2.1 26)), (1, .int a1), (2, .int a2), (3, .int a3)]) hx hb dX2_anyAbove_1 hl (by decide) rfl (fun ls hl => ?_)
  have LPL1 : ∀ (kL1 : Int32 → gSt → gO), (∀ (l1_4 : Int32) (σL1 : gSt) (H : Heap) (locs : List Loc) (ls : Array Slot), kL1 l1_4 σL1 = some (r, σ') → gW G σL1 H → va_S (gA G) s.heap H locs → lv_has ls 5 [(4, .int l1_4), (0, .ref (G.2.2.1 26)), (1, .int a1), (2, .int a2), (3, .int a3)] → W p l e (gRm 1 23) s m ([.ref (G.2.2.1 26), .int a1, .int a2, .int a3].toArray) below meth c H locs 0 0 (MQ below (gQ G r σ') ([.ref (G.2.2.1 26), .int a1, .int a2, .int a3].toArray) s 0 0 (gA G)) (F0 m 42 ls [])) → ∀ (nL1 : Nat) (l1_4 : Int32) (σL1 : gSt) (H : Heap) (locs : List Loc) (ls : Array Slot), L1_X2_anyAbove a1 a2 a3 nL1 l1_4 σL1 kL1 = some (r, σ') → gW G σL1 H → va_S (gA G) s.heap H locs → lv_has ls 5 [(4, .int l1_4), (0, .ref (G.2.2.1 26)), (1, .int a1), (2, .int a2), (3, .int a3)] → W p l e (gRm 1 23) s m ([.ref (G.2.2.1 26), .int a1, .int a2, .int a3].toArray) below meth c H locs 0 0 (MQ below (gQ G r σ') ([.ref (G.2.2.1 26), .int a1, .int a2, .int a3].toArray) s 0 0 (gA G)) (F0 m 3 ls []) := by
    intro kL1 hKL1 nL1
    induction nL1 with
    | zero =>
      intro l1_4 σL1 H locs ls h
      cases h
    | succ nL1 ihL1 =>
      intro l1_4 σL1 H locs ls h hP hS hl
      rw [L1_X2_anyAbove] at h
      refine lv_iload hx hb dX2_anyAbove_3 (lv_at hl 0 rfl) ?_
      refine lv_aload_n hx hb dX2_anyAbove_5 rfl (lv_at hl 1 rfl) ?_
      refine g_get hx hb ht hown hE hP (by decide) gE_26 uX2 rfl 0 (by decide) m_165 rfl rfl dX2_anyAbove_6 ?_
      refine lv_icmp_ge (tgt := 42) hx hb dX2_anyAbove_9 (by decide) (fun c2 => ?_) (fun c2 => ?_)
      · have h := g_ift c2 h
        exact hKL1 _ _ _ _ _ h hP hS (lv_sub hl [0, 1, 2, 3, 4] rfl)
      · have h := g_iff c2 h
        refine lv_aload_n hx hb dX2_anyAbove_12 rfl (lv_at hl 1 rfl) ?_
        refine lv_iload hx hb dX2_anyAbove_13 (lv_at hl 0 rfl) ?_
        refine lv_iload_n hx hb dX2_anyAbove_15 rfl (lv_at hl 2 rfl) ?_
        refine lv_iload_n hx hb dX2_anyAbove_16 rfl (lv_at hl 3 rfl) ?_
        obtain ⟨r4, σ3, hcr4, h⟩ := g_bd h
        refine g_callV (As := [.int l1_4, .int a1, .int a2]) (n := 3) hx hb hml hown ht (c_X2_rules l G _ _ _ _ hcr4) m_496 m_497 m_498 m_36 m_499 (by decide +kernel) (by decide) gE_26 rfl hE hP hS (fun _ h => h) (fun _ _ h => h) rfl hl.1 rfl (Nat.le_of_ble_eq_true rfl) dX2_anyAbove_17 ⟨by decide, by decide⟩ ⟨Nat.zero_le _, Nat.zero_le _⟩ (fun H locs hP hS => ?_)
        refine lv_if_eq (tgt := 36) hx hb dX2_anyAbove_20 (by decide) (fun c5 => ?_) (fun c5 => ?_)
        · have h := g_ift c5 h
          obtain ⟨x6, ex6⟩ : ∃ y : Int32, y = l1_4 + 1 := ⟨_, rfl⟩
          have h := g_nm ex6 h
          refine lv_iinc (v := x6) (lv' := [(4, .int x6), (0, .ref (G.2.2.1 26)), (1, .int a1), (2, .int a2), (3, .int a3)]) hx hb dX2_anyAbove_36 hl (k := 0) rfl (by rw [ex6]; rfl) (by decide) rfl (fun ls hl => ?_)
          refine lv_goto (tgt := 3) hx hb dX2_anyAbove_39 (by decide) ?_
          exact ihL1 _ _ _ _ _ h hP hS (lv_sub hl [0, 1, 2, 3, 4] rfl)
        · have h := g_iff c5 h
          refine lv_aload_n hx hb dX2_anyAbove_23 rfl (lv_at hl 1 rfl) ?_
          refine g_get hx hb ht hown hE hP (by decide) gE_26 uX2 rfl 2 (by decide) m_168 rfl rfl dX2_anyAbove_24 ?_
          refine lv_iload hx hb dX2_anyAbove_27 (lv_at hl 0 rfl) ?_
          obtain ⟨i7, h⟩ := g_ix h
          refine g_iald hx hb hE hP (by decide) rfl (by decide) i7 dX2_anyAbove_29 ?_
          refine lv_iload_n hx hb dX2_anyAbove_30 rfl (lv_at hl 4 rfl) ?_
          refine lv_icmp_le (tgt := 36) hx hb dX2_anyAbove_31 (by decide) (fun c8 => ?_) (fun c8 => ?_)
          · have h := g_ift c8 h
            obtain ⟨x9, ex9⟩ : ∃ y : Int32, y = l1_4 + 1 := ⟨_, rfl⟩
            have h := g_nm ex9 h
            refine lv_iinc (v := x9) (lv' := [(4, .int x9), (0, .ref (G.2.2.1 26)), (1, .int a1), (2, .int a2), (3, .int a3)]) hx hb dX2_anyAbove_36 hl (k := 0) rfl (by rw [ex9]; rfl) (by decide) rfl (fun ls hl => ?_)
            refine lv_goto (tgt := 3) hx hb dX2_anyAbove_39 (by decide) ?_
            exact ihL1 _ _ _ _ _ h hP hS (lv_sub hl [0, 1, 2, 3, 4] rfl)
          · have h := g_iff c8 h
            refine lv_iconst (v := 1) hx hb dX2_anyAbove_34 (by decide) ?_
            exact g_zret hx hb hr hlk hE hP hS (by decide) h dX2_anyAbove_35
  refine LPL1 _ (fun z10 σ11 H locs ls h hP hS hl => ?_) gFu _ _ _ _ _ h hP hS (lv_sub hl [0, 1, 2, 3, 4] rfl)
  refine lv_iconst (v := 0) hx hb dX2_anyAbove_42 (by decide) ?_
  exact g_zret hx hb hr hlk hE hP hS (by decide) h dX2_anyAbove_43

def M_X3_has (a1 : Int32) (σ : gSt) : gO :=
  if a1 < 0 then (some (0, σ)) else (if (σ 31 0) ≤ a1 then (some (0, σ)) else (some (1, σ)))
set_option maxHeartbeats 4000000 in
set_option maxRecDepth 100000 in
theorem c_X3_has (l : Launch) (G : gPar) (a1 : Int32) (σ : gSt) {r : Int32} {σ' : gSt} (h : M_X3_has a1 σ = some (r, σ')) : gC l G yX3_has cX3_has 2 (some .boolean) 0 0 [.ref (G.2.2.1 31), .int a1] σ r σ' := by
  refine gC_of (by decide) (Nat.le_of_ble_eq_true rfl) ?_
  intro p e s m below meth c hx hb hr ht hown hlk hml hE hP ls hl
  have hS : va_S (gA G) s.heap s.heap [] := va_S.rf
  have hl : lv_has ls 2 [(0, .ref (G.2.2.1 31)), (1, .int a1)] := hl
  unfold M_X3_has at h
  refine lv_iload_n hx hb dX3_has_0 rfl (lv_at hl 1 rfl) ?_
  refine lv_if_lt (tgt := 16) hx hb dX3_has_1 (by decide) (fun c1 => ?_) (fun c1 => ?_)
  · have h := g_ift c1 h
    refine lv_iconst (v := 0) hx hb dX3_has_16 (by decide) ?_
    exact g_zret hx hb hr hlk hE hP hS (by decide) h dX3_has_17
  · have h := g_iff c1 h
    refine lv_iload_n hx hb dX3_has_4 rfl (lv_at hl 1 rfl) ?_
    refine lv_aload_n hx hb dX3_has_5 rfl (lv_at hl 0 rfl) ?_
    refine g_get hx hb ht hown hE hP (by decide) gE_31 uX3 rfl 0 (by decide) m_190 rfl rfl dX3_has_6 ?_
    refine lv_icmp_ge (tgt := 16) hx hb dX3_has_9 (by decide) (fun c2 => ?_) (fun c2 => ?_)
    · have h := g_ift c2 h
      refine lv_iconst (v := 0) hx hb dX3_has_16 (by decide) ?_
      exact g_zret hx hb hr hlk hE hP hS (by decide) h dX3_has_17
    · have h := g_iff c2 h
      refine lv_iconst (v := 1) hx hb dX3_has_12 (by decide) ?_
      refine lv_goto (tgt := 17) hx hb dX3_has_13 (by decide) ?_
      exact g_zret hx hb hr hlk hE hP hS (by decide) h dX3_has_17

def M_X3_add (a1 a2 a3 a4 a5 : Int32) (σ : gSt) : gO :=
  gIx 20 (σ 31 0) (gNm (gUp σ 32 (σ 31 0).toNatClampNeg a1) (fun σ2 => gIx 20 (σ2 31 0) (gNm (gUp σ2 33 (σ2 31 0).toNatClampNeg a2) (fun σ4 => gIx 20 (σ4 31 0) (gNm (gUp σ4 34 (σ4 31 0).toNatClampNeg a3) (fun σ6 => gIx 20 (σ6 31 0) (gNm (gUp σ6 35 (σ6 31 0).toNatClampNeg a4) (fun σ8 => gIx 20 (σ8 31 0) (gNm (gUp σ8 36 (σ8 31 0).toNatClampNeg a5) (fun σ10 => gIx 20 (σ10 31 0) (gNm (gUp σ10 37 (σ10 31 0).toNatClampNeg 0) (fun σ12 => gNm (gUp σ12 31 0 ((σ12 31 0) + 1)) (fun σ13 => some (((σ13 31 0) - 1), σ13))))))))))))))
set_option maxHeartbeats 4000000 in
set_option maxRecDepth 100000 in
theorem c_X3_add (l : Launch) (G : gPar) (a1 a2 a3 a4 a5 : Int32) (σ : gSt) {r : Int32} {σ' : gSt} (h : M_X3_add a1 a2 a3 a4 a5 σ = some (r, σ')) : gC l G yX3_add cX3_add 6 (some .int) 0 0 [.ref (G.2.2.1 31), .int a1, .int a2, .int a3, .int a4, .int a5] σ r σ' := by
  refine gC_of (by decide) (Nat.le_of_ble_eq_true rfl) ?_
  intro p e s m below meth c hx hb hr ht hown hlk hml hE hP ls hl
  have hS : va_S (gA G) s.heap s.heap [] := va_S.rf
  have hl : lv_has ls 6 [(0, .ref (G.2.2.1 31)), (1, .int a1), (2, .int a2), (3, .int a3), (4, .int a4), (5, .int a5)] := hl
  unfold M_X3_add at h
  refine lv_aload_n hx hb dX3_add_0 rfl (lv_at hl 0 rfl) ?_
  refine g_get hx hb ht hown hE hP (by decide) gE_31 uX3 rfl 1 (by decide) m_192 rfl rfl dX3_add_1 ?_
  refine lv_aload_n hx hb dX3_add_4 rfl (lv_at hl 0 rfl) ?_
  refine g_get hx hb ht hown hE hP (by decide) gE_31 uX3 rfl 0 (by decide) m_190 rfl rfl dX3_add_5 ?_
  refine lv_iload_n hx hb dX3_add_8 rfl (lv_at hl 1 rfl) ?_
  obtain ⟨i1, h⟩ := g_ix h
  refine g_iast hx hb hE hP hS (by decide) rfl (by decide) i1 dX3_add_9 (fun H locs σ2 eσ2 hP hS => ?_)
  have h := g_nm eσ2 h
  refine lv_aload_n hx hb dX3_add_10 rfl (lv_at hl 0 rfl) ?_
  refine g_get hx hb ht hown hE hP (by decide) gE_31 uX3 rfl 2 (by decide) m_194 rfl rfl dX3_add_11 ?_
  refine lv_aload_n hx hb dX3_add_14 rfl (lv_at hl 0 rfl) ?_
  refine g_get hx hb ht hown hE hP (by decide) gE_31 uX3 rfl 0 (by decide) m_190 rfl rfl dX3_add_15 ?_
  refine lv_iload_n hx hb dX3_add_18 rfl (lv_at hl 2 rfl) ?_
  obtain ⟨i3, h⟩ := g_ix h
  refine g_iast hx hb hE hP hS (by decide) rfl (by decide) i3 dX3_add_19 (fun H locs σ4 eσ4 hP hS => ?_)
  have h := g_nm eσ4 h
  refine lv_aload_n hx hb dX3_add_20 rfl (lv_at hl 0 rfl) ?_
  refine g_get hx hb ht hown hE hP (by decide) gE_31 uX3 rfl 3 (by decide) m_196 rfl rfl dX3_add_21 ?_
  refine lv_aload_n hx hb dX3_add_24 rfl (lv_at hl 0 rfl) ?_
  refine g_get hx hb ht hown hE hP (by decide) gE_31 uX3 rfl 0 (by decide) m_190 rfl rfl dX3_add_25 ?_
  refine lv_iload_n hx hb dX3_add_28 rfl (lv_at hl 3 rfl) ?_
  obtain ⟨i5, h⟩ := g_ix h
  refine g_iast hx hb hE hP hS (by decide) rfl (by decide) i5 dX3_add_29 (fun H locs σ6 eσ6 hP hS => ?_)
  have h := g_nm eσ6 h
  refine lv_aload_n hx hb dX3_add_30 rfl (lv_at hl 0 rfl) ?_
  refine g_get hx hb ht hown hE hP (by decide) gE_31 uX3 rfl 4 (by decide) m_198 rfl rfl dX3_add_31 ?_
  refine lv_aload_n hx hb dX3_add_34 rfl (lv_at hl 0 rfl) ?_
  refine g_get hx hb ht hown hE hP (by decide) gE_31 uX3 rfl 0 (by decide) m_190 rfl rfl dX3_add_35 ?_
  refine lv_iload hx hb dX3_add_38 (lv_at hl 4 rfl) ?_
  obtain ⟨i7, h⟩ := g_ix h
  refine g_iast hx hb hE hP hS (by decide) rfl (by decide) i7 dX3_add_40 (fun H locs σ8 eσ8 hP hS => ?_)
  have h := g_nm eσ8 h
  refine lv_aload_n hx hb dX3_add_41 rfl (lv_at hl 0 rfl) ?_
  refine g_get hx hb ht hown hE hP (by decide) gE_31 uX3 rfl 5 (by decide) m_200 rfl rfl dX3_add_42 ?_
  refine lv_aload_n hx hb dX3_add_45 rfl (lv_at hl 0 rfl) ?_
  refine g_get hx hb ht hown hE hP (by decide) gE_31 uX3 rfl 0 (by decide) m_190 rfl rfl dX3_add_46 ?_
  refine lv_iload hx hb dX3_add_49 (lv_at hl 5 rfl) ?_
  obtain ⟨i9, h⟩ := g_ix h
  refine g_iast hx hb hE hP hS (by decide) rfl (by decide) i9 dX3_add_51 (fun H locs σ10 eσ10 hP hS => ?_)
  have h := g_nm eσ10 h
  refine lv_aload_n hx hb dX3_add_52 rfl (lv_at hl 0 rfl) ?_
  refine g_get hx hb ht hown hE hP (by decide) gE_31 uX3 rfl 6 (by decide) m_202 rfl rfl dX3_add_53 ?_
  refine lv_aload_n hx hb dX3_add_56 rfl (lv_at hl 0 rfl) ?_
  refine g_get hx hb ht hown hE hP (by decide) gE_31 uX3 rfl 0 (by decide) m_190 rfl rfl dX3_add_57 ?_
  refine lv_iconst (v := 0) hx hb dX3_add_60 (by decide) ?_
  obtain ⟨i11, h⟩ := g_ix h
  refine g_iast hx hb hE hP hS (by decide) rfl (by decide) i11 dX3_add_61 (fun H locs σ12 eσ12 hP hS => ?_)
  have h := g_nm eσ12 h
  refine lv_aload_n hx hb dX3_add_62 rfl (lv_at hl 0 rfl) ?_
  refine lv_dup hx hb dX3_add_63 rfl ?_
  refine g_get hx hb ht hown hE hP (by decide) gE_31 uX3 rfl 0 (by decide) m_190 rfl rfl dX3_add_64 ?_
  refine lv_iconst (v := 1) hx hb dX3_add_67 (by decide) ?_
  refine lv_iadd hx hb dX3_add_68 ?_
  refine g_put hx hb ht hown hE hP hS (by decide) gE_31 uX3 tyX3_ok nmX3 rfl 0 (by decide) m_190 rfl rfl rfl rfl rfl (Nat.le_of_ble_eq_true rfl) rfl dX3_add_69 (fun H locs σ13 eσ13 hP hS => ?_)
  have h := g_nm eσ13 h
  refine lv_aload_n hx hb dX3_add_72 rfl (lv_at hl 0 rfl) ?_
  refine g_get hx hb ht hown hE hP (by decide) gE_31 uX3 rfl 0 (by decide) m_190 rfl rfl dX3_add_73 ?_
  refine lv_iconst (v := 1) hx hb dX3_add_76 (by decide) ?_
  refine lv_isub hx hb dX3_add_77 ?_
  exact g_iret hx hb hr hlk hE hP hS h dX3_add_78

def L1_X3_borneBy (a1 : Int32) : Nat → Int32 → Int32 → gSt → (Int32 → Int32 → gSt → gO) → gO
  | 0, _, _, _, _ => none
  | nL1 + 1, l1_3, l1_2, σL1, kL1 =>
    if (σL1 31 0) ≤ l1_3 then (kL1 l1_3 l1_2 σL1) else (gIx 20 l1_3 (if (σL1 37 l1_3.toNatClampNeg) = 2 then (gIx 20 l1_3 (gNm ((σL1 33 l1_3.toNatClampNeg) : Int32) (fun x13 => if x13 = a1 then (gIx 20 l1_3 (gNm ((l1_2 + (σL1 36 l1_3.toNatClampNeg)) : Int32) (fun x17 => gNm (l1_3 + 1 : Int32) (fun x18 => L1_X3_borneBy a1 nL1 x18 x17 σL1 kL1)))) else (gNm (l1_3 + 1 : Int32) (fun x15 => L1_X3_borneBy a1 nL1 x15 l1_2 σL1 kL1))))) else (gIx 20 l1_3 (gNm ((σL1 34 l1_3.toNatClampNeg) : Int32) (fun x6 => if x6 = a1 then (gIx 20 l1_3 (gNm ((l1_2 + (σL1 36 l1_3.toNatClampNeg)) : Int32) (fun x10 => gNm (l1_3 + 1 : Int32) (fun x11 => L1_X3_borneBy a1 nL1 x11 x10 σL1 kL1)))) else (gNm (l1_3 + 1 : Int32) (fun x8 => L1_X3_borneBy a1 nL1 x8 l1_2 σL1 kL1)))))))
def M_X3_borneBy (a1 : Int32) (σ : gSt) : gO :=
  L1_X3_borneBy a1 gFu 0 0 σ (fun z19 z20 σ21 => some (z20, σ21))
set_option maxHeartbeats 4000000 in
set_option maxRecDepth 100000 in
theorem c_X3_borneBy (l : Launch) (G : gPar) (a1 : Int32) (σ : gSt) {r : Int32} {σ' : gSt} (h : M_X3_borneBy a1 σ = some (r, σ')) : gC l G yX3_borneBy cX3_borneBy 5 (some .int) 0 0 [.ref (G.2.2.1 31), .int a1] σ r σ' := by
  refine gC_of (by decide) (Nat.le_of_ble_eq_true rfl) ?_
  intro p e s m below meth c hx hb hr ht hown hlk hml hE hP ls hl
  have hS : va_S (gA G) s.heap s.heap [] := va_S.rf
  have hl : lv_has ls 5 [(0, .ref (G.2.2.1 31)), (1, .int a1)] := hl
  unfold M_X3_borneBy at h
  refine lv_iconst (v := 0) hx hb dX3_borneBy_0 (by decide) ?_
  refine lv_istore_n (lv' := [(2, .int 0), (0, .ref (G.2.2.1 31)), (1, .int a1)]) hx hb dX3_borneBy_1 rfl hl (by decide) rfl (fun ls hl => ?_)
  refine lv_iconst (v := 0) hx hb dX3_borneBy_2 (by decide) ?_
  refine lv_istore_n (lv' := [(3, .int 0), (2, .int 0), (0, .ref (G.2.2.1 31)), (1, .int a1)]) hx hb dX3_borneBy_3 rfl hl (by decide) rfl (fun ls hl => ?_)
  have LPL1 : ∀ (kL1 : Int32 → Int32 → gSt → gO), (∀ (l1_3 l1_2 : Int32) (σL1 : gSt) (H : Heap) (locs : List Loc) (ls : Array Slot), kL1 l1_3 l1_2 σL1 = some (r, σ') → gW G σL1 H → va_S (gA G) s.heap H locs → lv_has ls 5 [(3, .int l1_3), (2, .int l1_2), (0, .ref (G.2.2.1 31)), (1, .int a1)] → W p l e (gRm 0 0) s m ([.ref (G.2.2.1 31), .int a1].toArray) below meth c H locs 0 0 (MQ below (gQ G r σ') ([.ref (G.2.2.1 31), .int a1].toArray) s 0 0 (gA G)) (F0 m 60 ls [])) → ∀ (nL1 : Nat) (l1_3 l1_2 : Int32) (σL1 : gSt) (H : Heap) (locs : List Loc) (ls : Array Slot), L1_X3_borneBy a1 nL1 l1_3 l1_2 σL1 kL1 = some (r, σ') → gW G σL1 H → va_S (gA G) s.heap H locs → lv_has ls 5 [(3, .int l1_3), (2, .int l1_2), (0, .ref (G.2.2.1 31)), (1, .int a1)] → W p l e (gRm 0 0) s m ([.ref (G.2.2.1 31), .int a1].toArray) below meth c H locs 0 0 (MQ below (gQ G r σ') ([.ref (G.2.2.1 31), .int a1].toArray) s 0 0 (gA G)) (F0 m 4 ls []) := by
    intro kL1 hKL1 nL1
    induction nL1 with
    | zero =>
      intro l1_3 l1_2 σL1 H locs ls h
      cases h
    | succ nL1 ihL1 =>
      intro l1_3 l1_2 σL1 H locs ls h hP hS hl
      rw [L1_X3_borneBy] at h
      refine lv_iload_n hx hb dX3_borneBy_4 rfl (lv_at hl 0 rfl) ?_
      refine lv_aload_n hx hb dX3_borneBy_5 rfl (lv_at hl 2 rfl) ?_
      refine g_get hx hb ht hown hE hP (by decide) gE_31 uX3 rfl 0 (by decide) m_190 rfl rfl dX3_borneBy_6 ?_
      refine lv_icmp_ge (tgt := 60) hx hb dX3_borneBy_9 (by decide) (fun c2 => ?_) (fun c2 => ?_)
      · have h := g_ift c2 h
        exact hKL1 _ _ _ _ _ _ h hP hS (lv_sub hl [0, 1, 2, 3] rfl)
      · have h := g_iff c2 h
        refine lv_aload_n hx hb dX3_borneBy_12 rfl (lv_at hl 2 rfl) ?_
        refine g_get hx hb ht hown hE hP (by decide) gE_31 uX3 rfl 6 (by decide) m_202 rfl rfl dX3_borneBy_13 ?_
        refine lv_iload_n hx hb dX3_borneBy_16 rfl (lv_at hl 0 rfl) ?_
        obtain ⟨i3, h⟩ := g_ix h
        refine g_iald hx hb hE hP (by decide) rfl (by decide) i3 dX3_borneBy_17 ?_
        refine lv_iconst (v := 2) hx hb dX3_borneBy_18 (by decide) ?_
        refine lv_icmp_ne (tgt := 31) hx hb dX3_borneBy_19 (by decide) (fun c4 => ?_) (fun c4 => ?_)
        · have h := g_iff c4 h
          refine lv_aload_n hx hb dX3_borneBy_31 rfl (lv_at hl 2 rfl) ?_
          refine g_get hx hb ht hown hE hP (by decide) gE_31 uX3 rfl 3 (by decide) m_196 rfl rfl dX3_borneBy_32 ?_
          refine lv_iload_n hx hb dX3_borneBy_35 rfl (lv_at hl 0 rfl) ?_
          obtain ⟨i5, h⟩ := g_ix h
          refine g_iald hx hb hE hP (by decide) rfl (by decide) i5 dX3_borneBy_36 ?_
          refine lv_topi (fun x6 ex6 => ?_)
          have h := g_nm ex6 h
          refine lv_istore (lv' := [(4, .int x6), (3, .int l1_3), (2, .int l1_2), (0, .ref (G.2.2.1 31)), (1, .int a1)]) hx hb dX3_borneBy_37 hl (by decide) rfl (fun ls hl => ?_)
          refine lv_iload hx hb dX3_borneBy_39 (lv_at hl 0 rfl) ?_
          refine lv_iload_n hx hb dX3_borneBy_41 rfl (lv_at hl 4 rfl) ?_
          refine lv_icmp_ne (tgt := 54) hx hb dX3_borneBy_42 (by decide) (fun c7 => ?_) (fun c7 => ?_)
          · have h := g_iff c7 h
            obtain ⟨x8, ex8⟩ : ∃ y : Int32, y = l1_3 + 1 := ⟨_, rfl⟩
            have h := g_nm ex8 h
            refine lv_iinc (v := x8) (lv' := [(3, .int x8), (4, .int x6), (2, .int l1_2), (0, .ref (G.2.2.1 31)), (1, .int a1)]) hx hb dX3_borneBy_54 hl (k := 1) rfl (by rw [ex8]; rfl) (by decide) rfl (fun ls hl => ?_)
            refine lv_goto (tgt := 4) hx hb dX3_borneBy_57 (by decide) ?_
            exact ihL1 _ _ _ _ _ _ h hP hS (lv_sub hl [0, 2, 3, 4] rfl)
          · have h := g_ift c7 h
            refine lv_iload_n hx hb dX3_borneBy_45 rfl (lv_at hl 2 rfl) ?_
            refine lv_aload_n hx hb dX3_borneBy_46 rfl (lv_at hl 3 rfl) ?_
            refine g_get hx hb ht hown hE hP (by decide) gE_31 uX3 rfl 5 (by decide) m_200 rfl rfl dX3_borneBy_47 ?_
            refine lv_iload_n hx hb dX3_borneBy_50 rfl (lv_at hl 1 rfl) ?_
            obtain ⟨i9, h⟩ := g_ix h
            refine g_iald hx hb hE hP (by decide) rfl (by decide) i9 dX3_borneBy_51 ?_
            refine lv_iadd hx hb dX3_borneBy_52 ?_
            refine lv_topi (fun x10 ex10 => ?_)
            have h := g_nm ex10 h
            refine lv_istore_n (lv' := [(2, .int x10), (4, .int x6), (3, .int l1_3), (0, .ref (G.2.2.1 31)), (1, .int a1)]) hx hb dX3_borneBy_53 rfl hl (by decide) rfl (fun ls hl => ?_)
            obtain ⟨x11, ex11⟩ : ∃ y : Int32, y = l1_3 + 1 := ⟨_, rfl⟩
            have h := g_nm ex11 h
            refine lv_iinc (v := x11) (lv' := [(3, .int x11), (2, .int x10), (4, .int x6), (0, .ref (G.2.2.1 31)), (1, .int a1)]) hx hb dX3_borneBy_54 hl (k := 2) rfl (by rw [ex11]; rfl) (by decide) rfl (fun ls hl => ?_)
            refine lv_goto (tgt := 4) hx hb dX3_borneBy_57 (by decide) ?_
            exact ihL1 _ _ _ _ _ _ h hP hS (lv_sub hl [0, 1, 3, 4] rfl)
        · have h := g_ift c4 h
          refine lv_aload_n hx hb dX3_borneBy_22 rfl (lv_at hl 2 rfl) ?_
          refine g_get hx hb ht hown hE hP (by decide) gE_31 uX3 rfl 2 (by decide) m_194 rfl rfl dX3_borneBy_23 ?_
          refine lv_iload_n hx hb dX3_borneBy_26 rfl (lv_at hl 0 rfl) ?_
          obtain ⟨i12, h⟩ := g_ix h
          refine g_iald hx hb hE hP (by decide) rfl (by decide) i12 dX3_borneBy_27 ?_
          refine lv_goto (tgt := 37) hx hb dX3_borneBy_28 (by decide) ?_
          refine lv_topi (fun x13 ex13 => ?_)
          have h := g_nm ex13 h
          refine lv_istore (lv' := [(4, .int x13), (3, .int l1_3), (2, .int l1_2), (0, .ref (G.2.2.1 31)), (1, .int a1)]) hx hb dX3_borneBy_37 hl (by decide) rfl (fun ls hl => ?_)
          refine lv_iload hx hb dX3_borneBy_39 (lv_at hl 0 rfl) ?_
          refine lv_iload_n hx hb dX3_borneBy_41 rfl (lv_at hl 4 rfl) ?_
          refine lv_icmp_ne (tgt := 54) hx hb dX3_borneBy_42 (by decide) (fun c14 => ?_) (fun c14 => ?_)
          · have h := g_iff c14 h
            obtain ⟨x15, ex15⟩ : ∃ y : Int32, y = l1_3 + 1 := ⟨_, rfl⟩
            have h := g_nm ex15 h
            refine lv_iinc (v := x15) (lv' := [(3, .int x15), (4, .int x13), (2, .int l1_2), (0, .ref (G.2.2.1 31)), (1, .int a1)]) hx hb dX3_borneBy_54 hl (k := 1) rfl (by rw [ex15]; rfl) (by decide) rfl (fun ls hl => ?_)
            refine lv_goto (tgt := 4) hx hb dX3_borneBy_57 (by decide) ?_
            exact ihL1 _ _ _ _ _ _ h hP hS (lv_sub hl [0, 2, 3, 4] rfl)
          · have h := g_ift c14 h
            refine lv_iload_n hx hb dX3_borneBy_45 rfl (lv_at hl 2 rfl) ?_
            refine lv_aload_n hx hb dX3_borneBy_46 rfl (lv_at hl 3 rfl) ?_
            refine g_get hx hb ht hown hE hP (by decide) gE_31 uX3 rfl 5 (by decide) m_200 rfl rfl dX3_borneBy_47 ?_
            refine lv_iload_n hx hb dX3_borneBy_50 rfl (lv_at hl 1 rfl) ?_
            obtain ⟨i16, h⟩ := g_ix h
            refine g_iald hx hb hE hP (by decide) rfl (by decide) i16 dX3_borneBy_51 ?_
            refine lv_iadd hx hb dX3_borneBy_52 ?_
            refine lv_topi (fun x17 ex17 => ?_)
            have h := g_nm ex17 h
            refine lv_istore_n (lv' := [(2, .int x17), (4, .int x13), (3, .int l1_3), (0, .ref (G.2.2.1 31)), (1, .int a1)]) hx hb dX3_borneBy_53 rfl hl (by decide) rfl (fun ls hl => ?_)
            obtain ⟨x18, ex18⟩ : ∃ y : Int32, y = l1_3 + 1 := ⟨_, rfl⟩
            have h := g_nm ex18 h
            refine lv_iinc (v := x18) (lv' := [(3, .int x18), (2, .int x17), (4, .int x13), (0, .ref (G.2.2.1 31)), (1, .int a1)]) hx hb dX3_borneBy_54 hl (k := 2) rfl (by rw [ex18]; rfl) (by decide) rfl (fun ls hl => ?_)
            refine lv_goto (tgt := 4) hx hb dX3_borneBy_57 (by decide) ?_
            exact ihL1 _ _ _ _ _ _ h hP hS (lv_sub hl [0, 1, 3, 4] rfl)
  refine LPL1 _ (fun z19 z20 σ21 H locs ls h hP hS hl => ?_) gFu _ _ _ _ _ _ h hP hS (lv_sub hl [0, 1, 2, 3] rfl)
  refine lv_iload_n hx hb dX3_borneBy_60 rfl (lv_at hl 1 rfl) ?_
  exact g_iret hx hb hr hlk hE hP hS h dX3_borneBy_61
