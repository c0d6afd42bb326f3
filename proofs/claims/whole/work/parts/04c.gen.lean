def M_X9_copyRow (k1 k2 n : Nat) (σ : gSt) : gO :=
  gGd (¬ (0 : Int32) < 0 ∧ ¬ (0 : Int32) < 0 ∧ ¬ ((if (Int32.ofNat n) < (Int32.ofNat n) then (Int32.ofNat n) else (Int32.ofNat n)) : Int32) < 0 ∧ (0 : Int32).toNatClampNeg + (if (Int32.ofNat n) < (Int32.ofNat n) then (Int32.ofNat n) else (Int32.ofNat n)).toNatClampNeg ≤ n ∧ (0 : Int32).toNatClampNeg + (if (Int32.ofNat n) < (Int32.ofNat n) then (Int32.ofNat n) else (Int32.ofNat n)).toNatClampNeg ≤ n) (gNm (gRow σ k2 (va_cpy (σ k1) (σ k2) (0 : Int32).toNatClampNeg (0 : Int32).toNatClampNeg (if (Int32.ofNat n) < (Int32.ofNat n) then (Int32.ofNat n) else (Int32.ofNat n)).toNatClampNeg)) (fun σ2 => some (0, σ2)))
set_option maxHeartbeats 4000000 in
set_option maxRecDepth 100000 in
theorem c_X9_copyRow (l : Launch) (G : gPar) (k1 k2 n : Nat) (hk1 : k1 < gN) (hL1 : gLen k1 = n) (hk2 : k2 < gN) (hL2 : gLen k2 = n) (hz : n ≠ 0) (σ : gSt) {r : Int32} {σ' : gSt} (h : M_X9_copyRow k1 k2 n σ = some (r, σ')) : gV l G yX9_copyRow cX9_copyRow 2 1 18 [.ref (G.2.2.1 k1), .ref (G.2.2.1 k2)] σ σ' := by
  refine gV_of (by decide) (Nat.le_of_ble_eq_true rfl) ?_
  intro p e s m below meth c hx hb hr ht hown hlk hml hE hP ls hl
  have hS : va_S (gA G) s.heap s.heap [] := va_S.rf
  have hl : lv_has ls 2 [(0, .ref (G.2.2.1 k1)), (1, .ref (G.2.2.1 k2))] := hl
  unfold M_X9_copyRow at h
  refine lv_aload_n hx hb dX9_copyRow_0 rfl (lv_at hl 0 rfl) ?_
  refine lv_iconst (v := 0) hx hb dX9_copyRow_1 (by decide) ?_
  refine lv_aload_n hx hb dX9_copyRow_2 rfl (lv_at hl 1 rfl) ?_
  refine lv_iconst (v := 0) hx hb dX9_copyRow_3 (by decide) ?_
  refine lv_aload_n hx hb dX9_copyRow_4 rfl (lv_at hl 0 rfl) ?_
  refine g_alen (v := (Int32.ofNat n)) hx hb hE hP hk1 hL1 hz rfl dX9_copyRow_5 ?_
  refine lv_aload_n hx hb dX9_copyRow_6 rfl (lv_at hl 1 rfl) ?_
  refine g_alen (v := (Int32.ofNat n)) hx hb hE hP hk2 hL2 hz rfl dX9_copyRow_7 ?_
  refine g_min hx hb (hml.trans hl.1.symm) hown ht m_750 m_732 m_43 m_733 (Nat.le_of_ble_eq_true rfl) (Nat.le_of_ble_eq_true rfl) ⟨Nat.zero_le _, Nat.zero_le _⟩ dX9_copyRow_8 ?_
  obtain ⟨q1, h⟩ := g_gd h
  refine g_copy hx hb (hml.trans hl.1.symm) hown ht m_720 m_722 m_721 m_45 hE hP hS hk1 hL1 hz hk2 hL2 hz q1 (Nat.le_of_ble_eq_true rfl) (Nat.le_of_ble_eq_true rfl) dX9_copyRow_11 (fun H locs σ2 eσ2 hP hS => ?_)
  have h := g_nm eσ2 h
  exact g_vret (v := 0) (r := r) hx hb hr hlk hE hP hS h dX9_copyRow_14

def L4_X4_become_k : Nat → Int32 → gSt → (Int32 → gSt → gO) → gO
  | 0, _, _, _ => none
  | nL4 + 1, l4_2, σL4, kL4 =>
    if 6 ≤ l4_2 then (kL4 l4_2 σL4) else (gIx 6 l4_2 (gIx 6 l4_2 (gBd (M_X9_copyRow (5 + l4_2.toNatClampNeg) (47 + l4_2.toNatClampNeg) 6 σL4) (fun r9 σ8 => gNm (l4_2 + 1 : Int32) (fun x10 => L4_X4_become_k nL4 x10 σ8 kL4)))))
def M_X4_become_k (σ : gSt) : gO :=
  gNm (gUp σ 44 0 (σ 2 0)) (fun σ1 => gBd (M_X9_copyRow 3 45 6 σ1) (fun r3 σ2 => L4_X4_become_k gFu 0 σ2 (fun z11 σ12 => some (0, σ12))))
set_option maxHeartbeats 4000000 in
set_option maxRecDepth 100000 in
theorem c_X4_become_k (l : Launch) (G : gPar) (σ : gSt) {r : Int32} {σ' : gSt} (h : M_X4_become_k σ = some (r, σ')) : gV l G yX4_become cX4_become 3 2 39 [.ref (G.2.2.1 44), .ref (G.2.2.1 2)] σ σ' := by
  refine gV_of (by decide) (Nat.le_of_ble_eq_true rfl) ?_
  intro p e s m below meth c hx hb hr ht hown hlk hml hE hP ls hl
  have hS : va_S (gA G) s.heap s.heap [] := va_S.rf
  have hl : lv_has ls 3 [(0, .ref (G.2.2.1 44)), (1, .ref (G.2.2.1 2))] := hl
  unfold M_X4_become_k at h
  refine lv_aload_n hx hb dX4_become_0 rfl (lv_at hl 0 rfl) ?_
  refine lv_aload_n hx hb dX4_become_1 rfl (lv_at hl 1 rfl) ?_
  refine g_get hx hb ht hown hE hP (by decide) gE_2 uX4 rfl 0 (by decide) m_68 rfl rfl dX4_become_2 ?_
  refine g_put hx hb ht hown hE hP hS (by decide) gE_44 uX4 tyX4_ok nmX4 rfl 0 (by decide) m_68 rfl rfl rfl rfl rfl (Nat.le_of_ble_eq_true rfl) rfl dX4_become_5 (fun H locs σ1 eσ1 hP hS => ?_)
  have h := g_nm eσ1 h
  refine lv_aload_n hx hb dX4_become_8 rfl (lv_at hl 1 rfl) ?_
  refine g_get hx hb ht hown hE hP (by decide) gE_2 uX4 rfl 1 (by decide) m_70 rfl rfl dX4_become_9 ?_
  refine lv_aload_n hx hb dX4_become_12 rfl (lv_at hl 0 rfl) ?_
  refine g_get hx hb ht hown hE hP (by decide) gE_44 uX4 rfl 1 (by decide) m_70 rfl rfl dX4_become_13 ?_
  obtain ⟨r3, σ2, hcr3, h⟩ := g_bd h
  refine g_callSNv (As := [.ref (G.2.2.1 3), .ref (G.2.2.1 45)]) (n := 2) (host := "PoorDesk") hx hb hml hown ht (c_X9_copyRow l G 3 45 6 (by decide) rfl (by decide) rfl (by decide) _ hcr3) (by decide +kernel) m_748 m_31 m_749 (by decide +kernel) hE hP hS (fun _ h => h) (fun _ _ h => h) rfl hl.1 rfl (Nat.le_of_ble_eq_true rfl) dX4_become_16 ⟨by decide, by decide⟩ ⟨Nat.zero_le _, Nat.zero_le _⟩ (fun H locs hP hS => ?_)
  refine lv_iconst (v := 0) hx hb dX4_become_19 (by decide) ?_
  refine lv_istore_n (lv' := [(2, .int 0), (0, .ref (G.2.2.1 44)), (1, .ref (G.2.2.1 2))]) hx hb dX4_become_20 rfl hl (by decide) rfl (fun ls hl => ?_)
  have LPL4 : ∀ (kL4 : Int32 → gSt → gO), (∀ (l4_2 : Int32) (σL4 : gSt) (H : Heap) (locs : List Loc) (ls : Array Slot), kL4 l4_2 σL4 = some (r, σ') → gW G σL4 H → va_S (gA G) s.heap H locs → lv_has ls 3 [(2, .int l4_2), (0, .ref (G.2.2.1 44)), (1, .ref (G.2.2.1 2))] → W p l e (gRm 2 39) s m ([.ref (G.2.2.1 44), .ref (G.2.2.1 2)].toArray) below meth c H locs 0 0 (MQ below (gQv G σ') ([.ref (G.2.2.1 44), .ref (G.2.2.1 2)].toArray) s 0 0 (gA G)) (F0 m 48 ls [])) → ∀ (nL4 : Nat) (l4_2 : Int32) (σL4 : gSt) (H : Heap) (locs : List Loc) (ls : Array Slot), L4_X4_become_k nL4 l4_2 σL4 kL4 = some (r, σ') → gW G σL4 H → va_S (gA G) s.heap H locs → lv_has ls 3 [(2, .int l4_2), (0, .ref (G.2.2.1 44)), (1, .ref (G.2.2.1 2))] → W p l e (gRm 2 39) s m ([.ref (G.2.2.1 44), .ref (G.2.2.1 2)].toArray) below meth c H locs 0 0 (MQ below (gQv G σ') ([.ref (G.2.2.1 44), .ref (G.2.2.1 2)].toArray) s 0 0 (gA G)) (F0 m 21 ls []) := by
    intro kL4 hKL4 nL4
    induction nL4 with
    | zero =>
      intro l4_2 σL4 H locs ls h
      cases h
    | succ nL4 ihL4 =>
      intro l4_2 σL4 H locs ls h hP hS hl
      rw [L4_X4_become_k] at h
      refine lv_iload_n hx hb dX4_become_21 rfl (lv_at hl 0 rfl) ?_
      refine lv_bipush (v := 6) hx hb dX4_become_22 (by decide) ?_
      refine lv_icmp_ge (tgt := 48) hx hb dX4_become_24 (by decide) (fun c5 => ?_) (fun c5 => ?_)
      · have h := g_ift c5 h
        exact hKL4 _ _ _ _ _ h hP hS (lv_sub hl [0, 1, 2] rfl)
      · have h := g_iff c5 h
        refine lv_aload_n hx hb dX4_become_27 rfl (lv_at hl 2 rfl) ?_
        refine g_get hx hb ht hown hE hP (by decide) gE_2 uX4 rfl 2 (by decide) m_71 rfl rfl dX4_become_28 ?_
        refine lv_iload_n hx hb dX4_become_31 rfl (lv_at hl 0 rfl) ?_
        obtain ⟨i6, h⟩ := g_ix h
        have ji6 := g_lt i6
        refine g_aald hx hb hE hP 1 (by decide) rfl rfl rfl i6 dX4_become_32 ?_
        refine lv_aload_n hx hb dX4_become_33 rfl (lv_at hl 1 rfl) ?_
        refine g_get hx hb ht hown hE hP (by decide) gE_44 uX4 rfl 2 (by decide) m_71 rfl rfl dX4_become_34 ?_
        refine lv_iload_n hx hb dX4_become_37 rfl (lv_at hl 0 rfl) ?_
        obtain ⟨i7, h⟩ := g_ix h
        have ji7 := g_lt i7
        refine g_aald hx hb hE hP 1 (by decide) rfl rfl rfl i7 dX4_become_38 ?_
        obtain ⟨r9, σ8, hcr9, h⟩ := g_bd h
        refine g_callSNv (As := [.ref (G.2.2.1 (5 + l4_2.toNatClampNeg)), .ref (G.2.2.1 (47 + l4_2.toNatClampNeg))]) (n := 2) (host := "PoorDesk") hx hb hml hown ht (c_X9_copyRow l G (5 + l4_2.toNatClampNeg) (47 + l4_2.toNatClampNeg) 6 (show 5 + l4_2.toNatClampNeg < 110 by omega) (gL_mile ji6) (show 47 + l4_2.toNatClampNeg < 110 by omega) (gL_mile2 ji7) (by decide) _ hcr9) (by decide +kernel) m_748 m_31 m_749 (by decide +kernel) hE hP hS (fun _ h => h) (fun _ _ h => h) rfl hl.1 rfl (Nat.le_of_ble_eq_true rfl) dX4_become_39 ⟨by decide, by decide⟩ ⟨Nat.zero_le _, Nat.zero_le _⟩ (fun H locs hP hS => ?_)
        obtain ⟨x10, ex10⟩ : ∃ y : Int32, y = l4_2 + 1 := ⟨_, rfl⟩
        have h := g_nm ex10 h
        refine lv_iinc (v := x10) (lv' := [(2, .int x10), (0, .ref (G.2.2.1 44)), (1, .ref (G.2.2.1 2))]) hx hb dX4_become_42 hl (k := 0) rfl (by rw [ex10]; rfl) (by decide) rfl (fun ls hl => ?_)
        refine lv_goto (tgt := 21) hx hb dX4_become_45 (by decide) ?_
        exact ihL4 _ _ _ _ _ h hP hS (lv_sub hl [0, 1, 2] rfl)
  refine LPL4 _ (fun z11 σ12 H locs ls h hP hS hl => ?_) gFu _ _ _ _ _ h hP hS (lv_sub hl [0, 1, 2] rfl)
  exact g_vret (v := 0) (r := r) hx hb hr hlk hE hP hS h dX4_become_48

def M_X5_become_k (σ : gSt) : gO :=
  gNm (gUp σ 53 0 (σ 11 0)) (fun σ1 => gBd (M_X9_copyRow 12 54 10 σ1) (fun r3 σ2 => gBd (M_X9_copyRow 13 55 10 σ2) (fun r5 σ4 => gBd (M_X9_copyRow 14 56 10 σ4) (fun r7 σ6 => gBd (M_X9_copyRow 15 57 10 σ6) (fun r9 σ8 => gBd (M_X9_copyRow 16 58 10 σ8) (fun r11 σ10 => some (0, σ10)))))))
set_option maxHeartbeats 4000000 in
set_option maxRecDepth 100000 in
theorem c_X5_become_k (l : Launch) (G : gPar) (σ : gSt) {r : Int32} {σ' : gSt} (h : M_X5_become_k σ = some (r, σ')) : gV l G yX5_become cX5_become 2 2 39 [.ref (G.2.2.1 53), .ref (G.2.2.1 11)] σ σ' := by
  refine gV_of (by decide) (Nat.le_of_ble_eq_true rfl) ?_
  intro p e s m below meth c hx hb hr ht hown hlk hml hE hP ls hl
  have hS : va_S (gA G) s.heap s.heap [] := va_S.rf
  have hl : lv_has ls 2 [(0, .ref (G.2.2.1 53)), (1, .ref (G.2.2.1 11))] := hl
  unfold M_X5_become_k at h
  refine lv_aload_n hx hb dX5_become_0 rfl (lv_at hl 0 rfl) ?_
  refine lv_aload_n hx hb dX5_become_1 rfl (lv_at hl 1 rfl) ?_
  refine g_get hx hb ht hown hE hP (by decide) gE_11 uX5 rfl 0 (by decide) m_87 rfl rfl dX5_become_2 ?_
  refine g_put hx hb ht hown hE hP hS (by decide) gE_53 uX5 tyX5_ok nmX5 rfl 0 (by decide) m_87 rfl rfl rfl rfl rfl (Nat.le_of_ble_eq_true rfl) rfl dX5_become_5 (fun H locs σ1 eσ1 hP hS => ?_)
  have h := g_nm eσ1 h
  refine lv_aload_n hx hb dX5_become_8 rfl (lv_at hl 1 rfl) ?_
  refine g_get hx hb ht hown hE hP (by decide) gE_11 uX5 rfl 1 (by decide) m_90 rfl rfl dX5_become_9 ?_
  refine lv_aload_n hx hb dX5_become_12 rfl (lv_at hl 0 rfl) ?_
  refine g_get hx hb ht hown hE hP (by decide) gE_53 uX5 rfl 1 (by decide) m_90 rfl rfl dX5_become_13 ?_
  obtain ⟨r3, σ2, hcr3, h⟩ := g_bd h
  refine g_callSNv (As := [.ref (G.2.2.1 12), .ref (G.2.2.1 54)]) (n := 2) (host := "PoorDesk") hx hb hml hown ht (c_X9_copyRow l G 12 54 10 (by decide) rfl (by decide) rfl (by decide) _ hcr3) (by decide +kernel) m_748 m_31 m_749 (by decide +kernel) hE hP hS (fun _ h => h) (fun _ _ h => h) rfl hl.1 rfl (Nat.le_of_ble_eq_true rfl) dX5_become_16 ⟨by decide, by decide⟩ ⟨Nat.zero_le _, Nat.zero_le _⟩ (fun H locs hP hS => ?_)
  refine lv_aload_n hx hb dX5_become_19 rfl (lv_at hl 1 rfl) ?_
  refine g_get hx hb ht hown hE hP (by decide) gE_11 uX5 rfl 2 (by decide) m_93 rfl rfl dX5_become_20 ?_
  refine lv_aload_n hx hb dX5_become_23 rfl (lv_at hl 0 rfl) ?_
  refine g_get hx hb ht hown hE hP (by decide) gE_53 uX5 rfl 2 (by decide) m_93 rfl rfl dX5_become_24 ?_
  obtain ⟨r5, σ4, hcr5, h⟩ := g_bd h
  refine g_callSNv (As := [.ref (G.2.2.1 13), .ref (G.2.2.1 55)]) (n := 2) (host := "PoorDesk") hx hb hml hown ht (c_X9_copyRow l G 13 55 10 (by decide) rfl (by decide) rfl (by decide) _ hcr5) (by decide +kernel) m_748 m_31 m_749 (by decide +kernel) hE hP hS (fun _ h => h) (fun _ _ h => h) rfl hl.1 rfl (Nat.le_of_ble_eq_true rfl) dX5_become_27 ⟨by decide, by decide⟩ ⟨Nat.zero_le _, Nat.zero_le _⟩ (fun H locs hP hS => ?_)
  refine lv_aload_n hx hb dX5_become_30 rfl (lv_at hl 1 rfl) ?_
  refine g_get hx hb ht hown hE hP (by decide) gE_11 uX5 rfl 3 (by decide) m_95 rfl rfl dX5_become_31 ?_
  refine lv_aload_n hx hb dX5_become_34 rfl (lv_at hl 0 rfl) ?_
  refine g_get hx hb ht hown hE hP (by decide) gE_53 uX5 rfl 3 (by decide) m_95 rfl rfl dX5_become_35 ?_
  obtain ⟨r7, σ6, hcr7, h⟩ := g_bd h
  refine g_callSNv (As := [.ref (G.2.2.1 14), .ref (G.2.2.1 56)]) (n := 2) (host := "PoorDesk") hx hb hml hown ht (c_X9_copyRow l G 14 56 10 (by decide) rfl (by decide) rfl (by decide) _ hcr7) (by decide +kernel) m_748 m_31 m_749 (by decide +kernel) hE hP hS (fun _ h => h) (fun _ _ h => h) rfl hl.1 rfl (Nat.le_of_ble_eq_true rfl) dX5_become_38 ⟨by decide, by decide⟩ ⟨Nat.zero_le _, Nat.zero_le _⟩ (fun H locs hP hS => ?_)
  refine lv_aload_n hx hb dX5_become_41 rfl (lv_at hl 1 rfl) ?_
  refine g_get hx hb ht hown hE hP (by decide) gE_11 uX5 rfl 4 (by decide) m_97 rfl rfl dX5_become_42 ?_
  refine lv_aload_n hx hb dX5_become_45 rfl (lv_at hl 0 rfl) ?_
  refine g_get hx hb ht hown hE hP (by decide) gE_53 uX5 rfl 4 (by decide) m_97 rfl rfl dX5_become_46 ?_
  obtain ⟨r9, σ8, hcr9, h⟩ := g_bd h
  refine g_callSNv (As := [.ref (G.2.2.1 15), .ref (G.2.2.1 57)]) (n := 2) (host := "PoorDesk") hx hb hml hown ht (c_X9_copyRow l G 15 57 10 (by decide) rfl (by decide) rfl (by decide) _ hcr9) (by decide +kernel) m_748 m_31 m_749 (by decide +kernel) hE hP hS (fun _ h => h) (fun _ _ h => h) rfl hl.1 rfl (Nat.le_of_ble_eq_true rfl) dX5_become_49 ⟨by decide, by decide⟩ ⟨Nat.zero_le _, Nat.zero_le _⟩ (fun H locs hP hS => ?_)
  refine lv_aload_n hx hb dX5_become_52 rfl (lv_at hl 1 rfl) ?_
  refine g_get hx hb ht hown hE hP (by decide) gE_11 uX5 rfl 5 (by decide) m_100 rfl rfl dX5_become_53 ?_
  refine lv_aload_n hx hb dX5_become_56 rfl (lv_at hl 0 rfl) ?_
  refine g_get hx hb ht hown hE hP (by decide) gE_53 uX5 rfl 5 (by decide) m_100 rfl rfl dX5_become_57 ?_
  obtain ⟨r11, σ10, hcr11, h⟩ := g_bd h
  refine g_callSNv (As := [.ref (G.2.2.1 16), .ref (G.2.2.1 58)]) (n := 2) (host := "PoorDesk") hx hb hml hown ht (c_X9_copyRow l G 16 58 10 (by decide) rfl (by decide) rfl (by decide) _ hcr11) (by decide +kernel) m_748 m_31 m_749 (by decide +kernel) hE hP hS (fun _ h => h) (fun _ _ h => h) rfl hl.1 rfl (Nat.le_of_ble_eq_true rfl) dX5_become_60 ⟨by decide, by decide⟩ ⟨Nat.zero_le _, Nat.zero_le _⟩ (fun H locs hP hS => ?_)
  exact g_vret (v := 0) (r := r) hx hb hr hlk hE hP hS h dX5_become_63

def M_X1_become_k (σ : gSt) : gO :=
  gNm (gUp σ 59 0 (σ 17 0)) (fun σ1 => gBd (M_X9_copyRow 18 60 24 σ1) (fun r3 σ2 => gBd (M_X9_copyRow 19 61 24 σ2) (fun r5 σ4 => gBd (M_X9_copyRow 20 62 24 σ4) (fun r7 σ6 => gBd (M_X9_copyRow 21 63 24 σ6) (fun r9 σ8 => gBd (M_X9_copyRow 22 64 24 σ8) (fun r11 σ10 => gBd (M_X9_copyRow 23 65 24 σ10) (fun r13 σ12 => gBd (M_X9_copyRow 24 66 24 σ12) (fun r15 σ14 => gBd (M_X9_copyRow 25 67 24 σ14) (fun r17 σ16 => some (0, σ16))))))))))
set_option maxHeartbeats 4000000 in
set_option maxRecDepth 100000 in
theorem c_X1_become_k (l : Launch) (G : gPar) (σ : gSt) {r : Int32} {σ' : gSt} (h : M_X1_become_k σ = some (r, σ')) : gV l G yX1_become cX1_become 2 2 39 [.ref (G.2.2.1 59), .ref (G.2.2.1 17)] σ σ' := by
  refine gV_of (by decide) (Nat.le_of_ble_eq_true rfl) ?_
  intro p e s m below meth c hx hb hr ht hown hlk hml hE hP ls hl
  have hS : va_S (gA G) s.heap s.heap [] := va_S.rf
  have hl : lv_has ls 2 [(0, .ref (G.2.2.1 59)), (1, .ref (G.2.2.1 17))] := hl
  unfold M_X1_become_k at h
  refine lv_aload_n hx hb dX1_become_0 rfl (lv_at hl 0 rfl) ?_
  refine lv_aload_n hx hb dX1_become_1 rfl (lv_at hl 1 rfl) ?_
  refine g_get hx hb ht hown hE hP (by decide) gE_17 uX1 rfl 0 (by decide) m_121 rfl rfl dX1_become_2 ?_
  refine g_put hx hb ht hown hE hP hS (by decide) gE_59 uX1 tyX1_ok nmX1 rfl 0 (by decide) m_121 rfl rfl rfl rfl rfl (Nat.le_of_ble_eq_true rfl) rfl dX1_become_5 (fun H locs σ1 eσ1 hP hS => ?_)
  have h := g_nm eσ1 h
  refine lv_aload_n hx hb dX1_become_8 rfl (lv_at hl 1 rfl) ?_
  refine g_get hx hb ht hown hE hP (by decide) gE_17 uX1 rfl 1 (by decide) m_124 rfl rfl dX1_become_9 ?_
  refine lv_aload_n hx hb dX1_become_12 rfl (lv_at hl 0 rfl) ?_
  refine g_get hx hb ht hown hE hP (by decide) gE_59 uX1 rfl 1 (by decide) m_124 rfl rfl dX1_become_13 ?_
  obtain ⟨r3, σ2, hcr3, h⟩ := g_bd h
  refine g_callSNv (As := [.ref (G.2.2.1 18), .ref (G.2.2.1 60)]) (n := 2) (host := "PoorDesk") hx hb hml hown ht (c_X9_copyRow l G 18 60 24 (by decide) rfl (by decide) rfl (by decide) _ hcr3) (by decide +kernel) m_748 m_31 m_749 (by decide +kernel) hE hP hS (fun _ h => h) (fun _ _ h => h) rfl hl.1 rfl (Nat.le_of_ble_eq_true rfl) dX1_become_16 ⟨by decide, by decide⟩ ⟨Nat.zero_le _, Nat.zero_le _⟩ (fun H locs hP hS => ?_)
  refine lv_aload_n hx hb dX1_become_19 rfl (lv_at hl 1 rfl) ?_
  refine g_get hx hb ht hown hE hP (by decide) gE_17 uX1 rfl 2 (by decide) m_126 rfl rfl dX1_become_20 ?_
  refine lv_aload_n hx hb dX1_become_23 rfl (lv_at hl 0 rfl) ?_
  refine g_get hx hb ht hown hE hP (by decide) gE_59 uX1 rfl 2 (by decide) m_126 rfl rfl dX1_become_24 ?_
  obtain ⟨r5, σ4, hcr5, h⟩ := g_bd h
  refine g_callSNv (As := [.ref (G.2.2.1 19), .ref (G.2.2.1 61)]) (n := 2) (host := "PoorDesk") hx hb hml hown ht (c_X9_copyRow l G 19 61 24 (by decide) rfl (by decide) rfl (by decide) _ hcr5) (by decide +kernel) m_748 m_31 m_749 (by decide +kernel) hE hP hS (fun _ h => h) (fun _ _ h => h) rfl hl.1 rfl (Nat.le_of_ble_eq_true rfl) dX1_become_27 ⟨by decide, by decide⟩ ⟨Nat.zero_le _, Nat.zero_le _⟩ (fun H locs hP hS => ?_)
  refine lv_aload_n hx hb dX1_become_30 rfl (lv_at hl 1 rfl) ?_
  refine g_get hx hb ht hown hE hP (by decide) gE_17 uX1 rfl 3 (by decide) m_128 rfl rfl dX1_become_31 ?_
  refine lv_aload_n hx hb dX1_become_34 rfl (lv_at hl 0 rfl) ?_
  refine g_get hx hb ht hown hE hP (by decide) gE_59 uX1 rfl 3 (by decide) m_128 rfl rfl dX1_become_35 ?_
  obtain ⟨r7, σ6, hcr7, h⟩ := g_bd h
  refine g_callSNv (As := [.ref (G.2.2.1 20), .ref (G.2.2.1 62)]) (n := 2) (host := "PoorDesk") hx hb hml hown ht (c_X9_copyRow l G 20 62 24 (by decide) rfl (by decide) rfl (by decide) _ hcr7) (by decide +kernel) m_748 m_31 m_749 (by decide +kernel) hE hP hS (fun _ h => h) (fun _ _ h => h) rfl hl.1 rfl (Nat.le_of_ble_eq_true rfl) dX1_become_38 ⟨by decide, by decide⟩ ⟨Nat.zero_le _, Nat.zero_le _⟩ (fun H locs hP hS => ?_)
  refine lv_aload_n hx hb dX1_become_41 rfl (lv_at hl 1 rfl) ?_
  refine g_get hx hb ht hown hE hP (by decide) gE_17 uX1 rfl 4 (by decide) m_130 rfl rfl dX1_become_42 ?_
  refine lv_aload_n hx hb dX1_become_45 rfl (lv_at hl 0 rfl) ?_
  refine g_get hx hb ht hown hE hP (by decide) gE_59 uX1 rfl 4 (by decide) m_130 rfl rfl dX1_become_46 ?_
  obtain ⟨r9, σ8, hcr9, h⟩ := g_bd h
  refine g_callSNv (As := [.ref (G.2.2.1 21), .ref (G.2.2.1 63)]) (n := 2) (host := "PoorDesk") hx hb hml hown ht (c_X9_copyRow l G 21 63 24 (by decide) rfl (by decide) rfl (by decide) _ hcr9) (by decide +kernel) m_748 m_31 m_749 (by decide +kernel) hE hP hS (fun _ h => h) (fun _ _ h => h) rfl hl.1 rfl (Nat.le_of_ble_eq_true rfl) dX1_become_49 ⟨by decide, by decide⟩ ⟨Nat.zero_le _, Nat.zero_le _⟩ (fun H locs hP hS => ?_)
  refine lv_aload_n hx hb dX1_become_52 rfl (lv_at hl 1 rfl) ?_
  refine g_get hx hb ht hown hE hP (by decide) gE_17 uX1 rfl 5 (by decide) m_132 rfl rfl dX1_become_53 ?_
  refine lv_aload_n hx hb dX1_become_56 rfl (lv_at hl 0 rfl) ?_
  refine g_get hx hb ht hown hE hP (by decide) gE_59 uX1 rfl 5 (by decide) m_132 rfl rfl dX1_become_57 ?_
  obtain ⟨r11, σ10, hcr11, h⟩ := g_bd h
  refine g_callSNv (As := [.ref (G.2.2.1 22), .ref (G.2.2.1 64)]) (n := 2) (host := "PoorDesk") hx hb hml hown ht (c_X9_copyRow l G 22 64 24 (by decide) rfl (by decide) rfl (by decide) _ hcr11) (by decide +kernel) m_748 m_31 m_749 (by decide +kernel) hE hP hS (fun _ h => h) (fun _ _ h => h) rfl hl.1 rfl (Nat.le_of_ble_eq_true rfl) dX1_become_60 ⟨by decide, by decide⟩ ⟨Nat.zero_le _, Nat.zero_le _⟩ (fun H locs hP hS => ?_)
  refine lv_aload_n hx hb dX1_become_63 rfl (lv_at hl 1 rfl) ?_
  refine g_get hx hb ht hown hE hP (by decide) gE_17 uX1 rfl 6 (by decide) m_134 rfl rfl dX1_become_64 ?_
  refine lv_aload_n hx hb dX1_become_67 rfl (lv_at hl 0 rfl) ?_
  refine g_get hx hb ht hown hE hP (by decide) gE_59 uX1 rfl 6 (by decide) m_134 rfl rfl dX1_become_68 ?_
  obtain ⟨r13, σ12, hcr13, h⟩ := g_bd h
  refine g_callSNv (As := [.ref (G.2.2.1 23), .ref (G.2.2.1 65)]) (n := 2) (host := "PoorDesk") hx hb hml hown ht (c_X9_copyRow l G 23 65 24 (by decide) rfl (by decide) rfl (by decide) _ hcr13) (by decide +kernel) m_748 m_31 m_749 (by decide +kernel) hE hP hS (fun _ h => h) (fun _ _ h => h) rfl hl.1 rfl (Nat.le_of_ble_eq_true rfl) dX1_become_71 ⟨by decide, by decide⟩ ⟨Nat.zero_le _, Nat.zero_le _⟩ (fun H locs hP hS => ?_)
  refine lv_aload_n hx hb dX1_become_74 rfl (lv_at hl 1 rfl) ?_
  refine g_get hx hb ht hown hE hP (by decide) gE_17 uX1 rfl 7 (by decide) m_136 rfl rfl dX1_become_75 ?_
  refine lv_aload_n hx hb dX1_become_78 rfl (lv_at hl 0 rfl) ?_
  refine g_get hx hb ht hown hE hP (by decide) gE_59 uX1 rfl 7 (by decide) m_136 rfl rfl dX1_become_79 ?_
  obtain ⟨r15, σ14, hcr15, h⟩ := g_bd h
  refine g_callSNv (As := [.ref (G.2.2.1 24), .ref (G.2.2.1 66)]) (n := 2) (host := "PoorDesk") hx hb hml hown ht (c_X9_copyRow l G 24 66 24 (by decide) rfl (by decide) rfl (by decide) _ hcr15) (by decide +kernel) m_748 m_31 m_749 (by decide +kernel) hE hP hS (fun _ h => h) (fun _ _ h => h) rfl hl.1 rfl (Nat.le_of_ble_eq_true rfl) dX1_become_82 ⟨by decide, by decide⟩ ⟨Nat.zero_le _, Nat.zero_le _⟩ (fun H locs hP hS => ?_)
  refine lv_aload_n hx hb dX1_become_85 rfl (lv_at hl 1 rfl) ?_
  refine g_get hx hb ht hown hE hP (by decide) gE_17 uX1 rfl 8 (by decide) m_138 rfl rfl dX1_become_86 ?_
  refine lv_aload_n hx hb dX1_become_89 rfl (lv_at hl 0 rfl) ?_
  refine g_get hx hb ht hown hE hP (by decide) gE_59 uX1 rfl 8 (by decide) m_138 rfl rfl dX1_become_90 ?_
  obtain ⟨r17, σ16, hcr17, h⟩ := g_bd h
  refine g_callSNv (As := [.ref (G.2.2.1 25), .ref (G.2.2.1 67)]) (n := 2) (host := "PoorDesk") hx hb hml hown ht (c_X9_copyRow l G 25 67 24 (by decide) rfl (by decide) rfl (by decide) _ hcr17) (by decide +kernel) m_748 m_31 m_749 (by decide +kernel) hE hP hS (fun _ h => h) (fun _ _ h => h) rfl hl.1 rfl (Nat.le_of_ble_eq_true rfl) dX1_become_93 ⟨by decide, by decide⟩ ⟨Nat.zero_le _, Nat.zero_le _⟩ (fun H locs hP hS => ?_)
  exact g_vret (v := 0) (r := r) hx hb hr hlk hE hP hS h dX1_become_96

def M_X2_become_k (σ : gSt) : gO :=
  gNm (gUp σ 68 0 (σ 26 0)) (fun σ1 => gBd (M_X9_copyRow 27 69 12 σ1) (fun r3 σ2 => gBd (M_X9_copyRow 28 70 12 σ2) (fun r5 σ4 => gBd (M_X9_copyRow 29 71 12 σ4) (fun r7 σ6 => gBd (M_X9_copyRow 30 72 12 σ6) (fun r9 σ8 => some (0, σ8))))))
set_option maxHeartbeats 4000000 in
set_option maxRecDepth 100000 in
theorem c_X2_become_k (l : Launch) (G : gPar) (σ : gSt) {r : Int32} {σ' : gSt} (h : M_X2_become_k σ = some (r, σ')) : gV l G yX2_become cX2_become 2 2 39 [.ref (G.2.2.1 68), .ref (G.2.2.1 26)] σ σ' := by
  refine gV_of (by decide) (Nat.le_of_ble_eq_true rfl) ?_
  intro p e s m below meth c hx hb hr ht hown hlk hml hE hP ls hl
  have hS : va_S (gA G) s.heap s.heap [] := va_S.rf
  have hl : lv_has ls 2 [(0, .ref (G.2.2.1 68)), (1, .ref (G.2.2.1 26))] := hl
  unfold M_X2_become_k at h
  refine lv_aload_n hx hb dX2_become_0 rfl (lv_at hl 0 rfl) ?_
  refine lv_aload_n hx hb dX2_become_1 rfl (lv_at hl 1 rfl) ?_
  refine g_get hx hb ht hown hE hP (by decide) gE_26 uX2 rfl 0 (by decide) m_165 rfl rfl dX2_become_2 ?_
  refine g_put hx hb ht hown hE hP hS (by decide) gE_68 uX2 tyX2_ok nmX2 rfl 0 (by decide) m_165 rfl rfl rfl rfl rfl (Nat.le_of_ble_eq_true rfl) rfl dX2_become_5 (fun H locs σ1 eσ1 hP hS => ?_)
  have h := g_nm eσ1 h
  refine lv_aload_n hx hb dX2_become_8 rfl (lv_at hl 1 rfl) ?_
  refine g_get hx hb ht hown hE hP (by decide) gE_26 uX2 rfl 1 (by decide) m_167 rfl rfl dX2_become_9 ?_
  refine lv_aload_n hx hb dX2_become_12 rfl (lv_at hl 0 rfl) ?_
  refine g_get hx hb ht hown hE hP (by decide) gE_68 uX2 rfl 1 (by decide) m_167 rfl rfl dX2_become_13 ?_
  obtain ⟨r3, σ2, hcr3, h⟩ := g_bd h
  refine g_callSNv (As := [.ref (G.2.2.1 27), .ref (G.2.2.1 69)]) (n := 2) (host := "PoorDesk") hx hb hml hown ht (c_X9_copyRow l G 27 69 12 (by decide) rfl (by decide) rfl (by decide) _ hcr3) (by decide +kernel) m_748 m_31 m_749 (by decide +kernel) hE hP hS (fun _ h => h) (fun _ _ h => h) rfl hl.1 rfl (Nat.le_of_ble_eq_true rfl) dX2_become_16 ⟨by decide, by decide⟩ ⟨Nat.zero_le _, Nat.zero_le _⟩ (fun H locs hP hS => ?_)
  refine lv_aload_n hx hb dX2_become_19 rfl (lv_at hl 1 rfl) ?_
  refine g_get hx hb ht hown hE hP (by decide) gE_26 uX2 rfl 2 (by decide) m_168 rfl rfl dX2_become_20 ?_
  refine lv_aload_n hx hb dX2_become_23 rfl (lv_at hl 0 rfl) ?_
  refine g_get hx hb ht hown hE hP (by decide) gE_68 uX2 rfl 2 (by decide) m_168 rfl rfl dX2_become_24 ?_
  obtain ⟨r5, σ4, hcr5, h⟩ := g_bd h
  refine g_callSNv (As := [.ref (G.2.2.1 28), .ref (G.2.2.1 70)]) (n := 2) (host := "PoorDesk") hx hb hml hown ht (c_X9_copyRow l G 28 70 12 (by decide) rfl (by decide) rfl (by decide) _ hcr5) (by decide +kernel) m_748 m_31 m_749 (by decide +kernel) hE hP hS (fun _ h => h) (fun _ _ h => h) rfl hl.1 rfl (Nat.le_of_ble_eq_true rfl) dX2_become_27 ⟨by decide, by decide⟩ ⟨Nat.zero_le _, Nat.zero_le _⟩ (fun H locs hP hS => ?_)
  refine lv_aload_n hx hb dX2_become_30 rfl (lv_at hl 1 rfl) ?_
  refine g_get hx hb ht hown hE hP (by decide) gE_26 uX2 rfl 3 (by decide) m_169 rfl rfl dX2_become_31 ?_
  refine lv_aload_n hx hb dX2_become_34 rfl (lv_at hl 0 rfl) ?_
  refine g_get hx hb ht hown hE hP (by decide) gE_68 uX2 rfl 3 (by decide) m_169 rfl rfl dX2_become_35 ?_
  obtain ⟨r7, σ6, hcr7, h⟩ := g_bd h
  refine g_callSNv (As := [.ref (G.2.2.1 29), .ref (G.2.2.1 71)]) (n := 2) (host := "PoorDesk") hx hb hml hown ht (c_X9_copyRow l G 29 71 12 (by decide) rfl (by decide) rfl (by decide) _ hcr7) (by decide +kernel) m_748 m_31 m_749 (by decide +kernel) hE hP hS (fun _ h => h) (fun _ _ h => h) rfl hl.1 rfl (Nat.le_of_ble_eq_true rfl) dX2_become_38 ⟨by decide, by decide⟩ ⟨Nat.zero_le _, Nat.zero_le _⟩ (fun H locs hP hS => ?_)
  refine lv_aload_n hx hb dX2_become_41 rfl (lv_at hl 1 rfl) ?_
  refine g_get hx hb ht hown hE hP (by decide) gE_26 uX2 rfl 4 (by decide) m_171 rfl rfl dX2_become_42 ?_
  refine lv_aload_n hx hb dX2_become_45 rfl (lv_at hl 0 rfl) ?_
  refine g_get hx hb ht hown hE hP (by decide) gE_68 uX2 rfl 4 (by decide) m_171 rfl rfl dX2_become_46 ?_
  obtain ⟨r9, σ8, hcr9, h⟩ := g_bd h
  refine g_callSNv (As := [.ref (G.2.2.1 30), .ref (G.2.2.1 72)]) (n := 2) (host := "PoorDesk") hx hb hml hown ht (c_X9_copyRow l G 30 72 12 (by decide) rfl (by decide) rfl (by decide) _ hcr9) (by decide +kernel) m_748 m_31 m_749 (by decide +kernel) hE hP hS (fun _ h => h) (fun _ _ h => h) rfl hl.1 rfl (Nat.le_of_ble_eq_true rfl) dX2_become_49 ⟨by decide, by decide⟩ ⟨Nat.zero_le _, Nat.zero_le _⟩ (fun H locs hP hS => ?_)
  exact g_vret (v := 0) (r := r) hx hb hr hlk hE hP hS h dX2_become_52

def M_X3_become_k (σ : gSt) : gO :=
  gNm (gUp σ 73 0 (σ 31 0)) (fun σ1 => gBd (M_X9_copyRow 32 74 20 σ1) (fun r3 σ2 => gBd (M_X9_copyRow 33 75 20 σ2) (fun r5 σ4 => gBd (M_X9_copyRow 34 76 20 σ4) (fun r7 σ6 => gBd (M_X9_copyRow 35 77 20 σ6) (fun r9 σ8 => gBd (M_X9_copyRow 36 78 20 σ8) (fun r11 σ10 => gBd (M_X9_copyRow 37 79 20 σ10) (fun r13 σ12 => some (0, σ12))))))))
set_option maxHeartbeats 4000000 in
set_option maxRecDepth 100000 in
theorem c_X3_become_k (l : Launch) (G : gPar) (σ : gSt) {r : Int32} {σ' : gSt} (h : M_X3_become_k σ = some (r, σ')) : gV l G yX3_become cX3_become 2 2 39 [.ref (G.2.2.1 73), .ref (G.2.2.1 31)] σ σ' := by
  refine gV_of (by decide) (Nat.le_of_ble_eq_true rfl) ?_
  intro p e s m below meth c hx hb hr ht hown hlk hml hE hP ls hl
  have hS : va_S (gA G) s.heap s.heap [] := va_S.rf
  have hl : lv_has ls 2 [(0, .ref (G.2.2.1 73)), (1, .ref (G.2.2.1 31))] := hl
  unfold M_X3_become_k at h
  refine lv_aload_n hx hb dX3_become_0 rfl (lv_at hl 0 rfl) ?_
  refine lv_aload_n hx hb dX3_become_1 rfl (lv_at hl 1 rfl) ?_
  refine g_get hx hb ht hown hE hP (by decide) gE_31 uX3 rfl 0 (by decide) m_190 rfl rfl dX3_become_2 ?_
  refine g_put hx hb ht hown hE hP hS (by decide) gE_73 uX3 tyX3_ok nmX3 rfl 0 (by decide) m_190 rfl rfl rfl rfl rfl (Nat.le_of_ble_eq_true rfl) rfl dX3_become_5 (fun H locs σ1 eσ1 hP hS => ?_)
  have h := g_nm eσ1 h
  refine lv_aload_n hx hb dX3_become_8 rfl (lv_at hl 1 rfl) ?_
  refine g_get hx hb ht hown hE hP (by decide) gE_31 uX3 rfl 1 (by decide) m_192 rfl rfl dX3_become_9 ?_
  refine lv_aload_n hx hb dX3_become_12 rfl (lv_at hl 0 rfl) ?_
  refine g_get hx hb ht hown hE hP (by decide) gE_73 uX3 rfl 1 (by decide) m_192 rfl rfl dX3_become_13 ?_
  obtain ⟨r3, σ2, hcr3, h⟩ := g_bd h
  refine g_callSNv (As := [.ref (G.2.2.1 32), .ref (G.2.2.1 74)]) (n := 2) (host := "PoorDesk") hx hb hml hown ht (c_X9_copyRow l G 32 74 20 (by decide) rfl (by decide) rfl (by decide) _ hcr3) (by decide +kernel) m_748 m_31 m_749 (by decide +kernel) hE hP hS (fun _ h => h) (fun _ _ h => h) rfl hl.1 rfl (Nat.le_of_ble_eq_true rfl) dX3_become_16 ⟨by decide, by decide⟩ ⟨Nat.zero_le _, Nat.zero_le _⟩ (fun H locs hP hS => ?_)
  refine lv_aload_n hx hb dX3_become_19 rfl (lv_at hl 1 rfl) ?_
  refine g_get hx hb ht hown hE hP (by decide) gE_31 uX3 rfl 2 (by decide) m_194 rfl rfl dX3_become_20 ?_
  refine lv_aload_n hx hb dX3_become_23 rfl (lv_at hl 0 rfl) ?_
  refine g_get hx hb ht hown hE hP (by decide) gE_73 uX3 rfl 2 (by decide) m_194 rfl rfl dX3_become_24 ?_
  obtain ⟨r5, σ4, hcr5, h⟩ := g_bd h
  refine g_callSNv (As := [.ref (G.2.2.1 33), .ref (G.2.2.1 75)]) (n := 2) (host := "PoorDesk") hx hb hml hown ht (c_X9_copyRow l G 33 75 20 (by decide) rfl (by decide) rfl (by decide) _ hcr5) (by decide +kernel) m_748 m_31 m_749 (by decide +kernel) hE hP hS (fun _ h => h) (fun _ _ h => h) rfl hl.1 rfl (Nat.le_of_ble_eq_true rfl) dX3_become_27 ⟨by decide, by decide⟩ ⟨Nat.zero_le _, Nat.zero_le _⟩ (fun H locs hP hS => ?_)
  refine lv_aload_n hx hb dX3_become_30 rfl (lv_at hl 1 rfl) ?_
  refine g_get hx hb ht hown hE hP (by decide) gE_31 uX3 rfl 3 (by decide) m_196 rfl rfl dX3_become_31 ?_
  refine lv_aload_n hx hb dX3_become_34 rfl (lv_at hl 0 rfl) ?_
  refine g_get hx hb ht hown hE hP (by decide) gE_73 uX3 rfl 3 (by decide) m_196 rfl rfl dX3_become_35 ?_
  obtain ⟨r7, σ6, hcr7, h⟩ := g_bd h
  refine g_callSNv (As := [.ref (G.2.2.1 34), .ref (G.2.2.1 76)]) (n := 2) (host := "PoorDesk") hx hb hml hown ht (c_X9_copyRow l G 34 76 20 (by decide) rfl (by decide) rfl (by decide) _ hcr7) (by decide +kernel) m_748 m_31 m_749 (by decide +kernel) hE hP hS (fun _ h => h) (fun _ _ h => h) rfl hl.1 rfl (Nat.le_of_ble_eq_true rfl) dX3_become_38 ⟨by decide, by decide⟩ ⟨Nat.zero_le _, Nat.zero_le _⟩ (fun H locs hP hS => ?_)
  refine lv_aload_n hx hb dX3_become_41 rfl (lv_at hl 1 rfl) ?_
  refine g_get hx hb ht hown hE hP (by decide) gE_31 uX3 rfl 4 (by decide) m_198 rfl rfl dX3_become_42 ?_
  refine lv_aload_n hx hb dX3_become_45 rfl (lv_at hl 0 rfl) ?_
  refine g_get hx hb ht hown hE hP (by decide) gE_73 uX3 rfl 4 (by decide) m_198 rfl rfl dX3_become_46 ?_
  obtain ⟨r9, σ8, hcr9, h⟩ := g_bd h
  refine g_callSNv (As := [.ref (G.2.2.1 35), .ref (G.2.2.1 77)]) (n := 2) (host := "PoorDesk") hx hb hml hown ht (c_X9_copyRow l G 35 77 20 (by decide) rfl (by decide) rfl (by decide) _ hcr9) (by decide +kernel) m_748 m_31 m_749 (by decide +kernel) hE hP hS (fun _ h => h) (fun _ _ h => h) rfl hl.1 rfl (Nat.le_of_ble_eq_true rfl) dX3_become_49 ⟨by decide, by decide⟩ ⟨Nat.zero_le _, Nat.zero_le _⟩ (fun H locs hP hS => ?_)
  refine lv_aload_n hx hb dX3_become_52 rfl (lv_at hl 1 rfl) ?_
  refine g_get hx hb ht hown hE hP (by decide) gE_31 uX3 rfl 5 (by decide) m_200 rfl rfl dX3_become_53 ?_
  refine lv_aload_n hx hb dX3_become_56 rfl (lv_at hl 0 rfl) ?_
  refine g_get hx hb ht hown hE hP (by decide) gE_73 uX3 rfl 5 (by decide) m_200 rfl rfl dX3_become_57 ?_
  obtain ⟨r11, σ10, hcr11, h⟩ := g_bd h
  refine g_callSNv (As := [.ref (G.2.2.1 36), .ref (G.2.2.1 78)]) (n := 2) (host := "PoorDesk") hx hb hml hown ht (c_X9_copyRow l G 36 78 20 (by decide) rfl (by decide) rfl (by decide) _ hcr11) (by decide +kernel) m_748 m_31 m_749 (by decide +kernel) hE hP hS (fun _ h => h) (fun _ _ h => h) rfl hl.1 rfl (Nat.le_of_ble_eq_true rfl) dX3_become_60 ⟨by decide, by decide⟩ ⟨Nat.zero_le _, Nat.zero_le _⟩ (fun H locs hP hS => ?_)
  refine lv_aload_n hx hb dX3_become_63 rfl (lv_at hl 1 rfl) ?_
  refine g_get hx hb ht hown hE hP (by decide) gE_31 uX3 rfl 6 (by decide) m_202 rfl rfl dX3_become_64 ?_
  refine lv_aload_n hx hb dX3_become_67 rfl (lv_at hl 0 rfl) ?_
  refine g_get hx hb ht hown hE hP (by decide) gE_73 uX3 rfl 6 (by decide) m_202 rfl rfl dX3_become_68 ?_
  obtain ⟨r13, σ12, hcr13, h⟩ := g_bd h
  refine g_callSNv (As := [.ref (G.2.2.1 37), .ref (G.2.2.1 79)]) (n := 2) (host := "PoorDesk") hx hb hml hown ht (c_X9_copyRow l G 37 79 20 (by decide) rfl (by decide) rfl (by decide) _ hcr13) (by decide +kernel) m_748 m_31 m_749 (by decide +kernel) hE hP hS (fun _ h => h) (fun _ _ h => h) rfl hl.1 rfl (Nat.le_of_ble_eq_true rfl) dX3_become_71 ⟨by decide, by decide⟩ ⟨Nat.zero_le _, Nat.zero_le _⟩ (fun H locs hP hS => ?_)
  exact g_vret (v := 0) (r := r) hx hb hr hlk hE hP hS h dX3_become_74

def M_X6_become_k (σ : gSt) : gO :=
  gNm (gUp σ 80 0 (σ 38 0)) (fun σ1 => gBd (M_X9_copyRow 39 81 10 σ1) (fun r3 σ2 => gBd (M_X9_copyRow 40 82 10 σ2) (fun r5 σ4 => gBd (M_X9_copyRow 41 83 10 σ4) (fun r7 σ6 => gBd (M_X9_copyRow 42 84 60 σ6) (fun r9 σ8 => some (0, σ8))))))
set_option maxHeartbeats 4000000 in
set_option maxRecDepth 100000 in
theorem c_X6_become_k (l : Launch) (G : gPar) (σ : gSt) {r : Int32} {σ' : gSt} (h : M_X6_become_k σ = some (r, σ')) : gV l G yX6_become cX6_become 2 2 39 [.ref (G.2.2.1 80), .ref (G.2.2.1 38)] σ σ' := by
  refine gV_of (by decide) (Nat.le_of_ble_eq_true rfl) ?_
  intro p e s m below meth c hx hb hr ht hown hlk hml hE hP ls hl
  have hS : va_S (gA G) s.heap s.heap [] := va_S.rf
  have hl : lv_has ls 2 [(0, .ref (G.2.2.1 80)), (1, .ref (G.2.2.1 38))] := hl
  unfold M_X6_become_k at h
  refine lv_aload_n hx hb dX6_become_0 rfl (lv_at hl 0 rfl) ?_
  refine lv_aload_n hx hb dX6_become_1 rfl (lv_at hl 1 rfl) ?_
  refine g_get hx hb ht hown hE hP (by decide) gE_38 uX6 rfl 0 (by decide) m_225 rfl rfl dX6_become_2 ?_
  refine g_put hx hb ht hown hE hP hS (by decide) gE_80 uX6 tyX6_ok nmX6 rfl 0 (by decide) m_225 rfl rfl rfl rfl rfl (Nat.le_of_ble_eq_true rfl) rfl dX6_become_5 (fun H locs σ1 eσ1 hP hS => ?_)
  have h := g_nm eσ1 h
  refine lv_aload_n hx hb dX6_become_8 rfl (lv_at hl 1 rfl) ?_
  refine g_get hx hb ht hown hE hP (by decide) gE_38 uX6 rfl 1 (by decide) m_227 rfl rfl dX6_become_9 ?_
  refine lv_aload_n hx hb dX6_become_12 rfl (lv_at hl 0 rfl) ?_
  refine g_get hx hb ht hown hE hP (by decide) gE_80 uX6 rfl 1 (by decide) m_227 rfl rfl dX6_become_13 ?_
  obtain ⟨r3, σ2, hcr3, h⟩ := g_bd h
  refine g_callSNv (As := [.ref (G.2.2.1 39), .ref (G.2.2.1 81)]) (n := 2) (host := "PoorDesk") hx hb hml hown ht (c_X9_copyRow l G 39 81 10 (by decide) rfl (by decide) rfl (by decide) _ hcr3) (by decide +kernel) m_748 m_31 m_749 (by decide +kernel) hE hP hS (fun _ h => h) (fun _ _ h => h) rfl hl.1 rfl (Nat.le_of_ble_eq_true rfl) dX6_become_16 ⟨by decide, by decide⟩ ⟨Nat.zero_le _, Nat.zero_le _⟩ (fun H locs hP hS => ?_)
  refine lv_aload_n hx hb dX6_become_19 rfl (lv_at hl 1 rfl) ?_
  refine g_get hx hb ht hown hE hP (by decide) gE_38 uX6 rfl 2 (by decide) m_229 rfl rfl dX6_become_20 ?_
  refine lv_aload_n hx hb dX6_become_23 rfl (lv_at hl 0 rfl) ?_
  refine g_get hx hb ht hown hE hP (by decide) gE_80 uX6 rfl 2 (by decide) m_229 rfl rfl dX6_become_24 ?_
  obtain ⟨r5, σ4, hcr5, h⟩ := g_bd h
  refine g_callSNv (As := [.ref (G.2.2.1 40), .ref (G.2.2.1 82)]) (n := 2) (host := "PoorDesk") hx hb hml hown ht (c_X9_copyRow l G 40 82 10 (by decide) rfl (by decide) rfl (by decide) _ hcr5) (by decide +kernel) m_748 m_31 m_749 (by decide +kernel) hE hP hS (fun _ h => h) (fun _ _ h => h) rfl hl.1 rfl (Nat.le_of_ble_eq_true rfl) dX6_become_27 ⟨by decide, by decide⟩ ⟨Nat.zero_le _, Nat.zero_le _⟩ (fun H locs hP hS => ?_)
  refine lv_aload_n hx hb dX6_become_30 rfl (lv_at hl 1 rfl) ?_
  refine g_get hx hb ht hown hE hP (by decide) gE_38 uX6 rfl 3 (by decide) m_231 rfl rfl dX6_become_31 ?_
  refine lv_aload_n hx hb dX6_become_34 rfl (lv_at hl 0 rfl) ?_
  refine g_get hx hb ht hown hE hP (by decide) gE_80 uX6 rfl 3 (by decide) m_231 rfl rfl dX6_become_35 ?_
  obtain ⟨r7, σ6, hcr7, h⟩ := g_bd h
  refine g_callSNv (As := [.ref (G.2.2.1 41), .ref (G.2.2.1 83)]) (n := 2) (host := "PoorDesk") hx hb hml hown ht (c_X9_copyRow l G 41 83 10 (by decide) rfl (by decide) rfl (by decide) _ hcr7) (by decide +kernel) m_748 m_31 m_749 (by decide +kernel) hE hP hS (fun _ h => h) (fun _ _ h => h) rfl hl.1 rfl (Nat.le_of_ble_eq_true rfl) dX6_become_38 ⟨by decide, by decide⟩ ⟨Nat.zero_le _, Nat.zero_le _⟩ (fun H locs hP hS => ?_)
  refine lv_aload_n hx hb dX6_become_41 rfl (lv_at hl 1 rfl) ?_
  refine g_get hx hb ht hown hE hP (by decide) gE_38 uX6 rfl 4 (by decide) m_233 rfl rfl dX6_become_42 ?_
  refine lv_aload_n hx hb dX6_become_45 rfl (lv_at hl 0 rfl) ?_
  refine g_get hx hb ht hown hE hP (by decide) gE_80 uX6 rfl 4 (by decide) m_233 rfl rfl dX6_become_46 ?_
  obtain ⟨r9, σ8, hcr9, h⟩ := g_bd h
  refine g_callSNv (As := [.ref (G.2.2.1 42), .ref (G.2.2.1 84)]) (n := 2) (host := "PoorDesk") hx hb hml hown ht (c_X9_copyRow l G 42 84 60 (by decide) rfl (by decide) rfl (by decide) _ hcr9) (by decide +kernel) m_748 m_31 m_749 (by decide +kernel) hE hP hS (fun _ h => h) (fun _ _ h => h) rfl hl.1 rfl (Nat.le_of_ble_eq_true rfl) dX6_become_49 ⟨by decide, by decide⟩ ⟨Nat.zero_le _, Nat.zero_le _⟩ (fun H locs hP hS => ?_)
  exact g_vret (v := 0) (r := r) hx hb hr hlk hE hP hS h dX6_become_52

def M_X0_become_k (σ : gSt) : gO :=
  gBd (M_X4_become_k σ) (fun r2 σ1 => gBd (M_X5_become_k σ1) (fun r4 σ3 => gBd (M_X1_become_k σ3) (fun r6 σ5 => gBd (M_X2_become_k σ5) (fun r8 σ7 => gBd (M_X3_become_k σ7) (fun r10 σ9 => gBd (M_X6_become_k σ9) (fun r12 σ11 => gNm (gUp σ11 43 6 (σ11 1 6)) (fun σ13 => some (0, σ13))))))))
set_option maxHeartbeats 4000000 in
set_option maxRecDepth 100000 in
theorem c_X0_become_k (l : Launch) (G : gPar) (σ : gSt) {r : Int32} {σ' : gSt} (h : M_X0_become_k σ = some (r, σ')) : gV l G yX0_become cX0_become 2 3 61 [.ref (G.2.2.1 43), .ref (G.2.2.1 1)] σ σ' := by
  refine gV_of (by decide) (Nat.le_of_ble_eq_true rfl) ?_
  intro p e s m below meth c hx hb hr ht hown hlk hml hE hP ls hl
  have hS : va_S (gA G) s.heap s.heap [] := va_S.rf
  have hl : lv_has ls 2 [(0, .ref (G.2.2.1 43)), (1, .ref (G.2.2.1 1))] := hl
  unfold M_X0_become_k at h
  refine lv_aload_n hx hb dX0_become_0 rfl (lv_at hl 0 rfl) ?_
  refine g_get hx hb ht hown hE hP (by decide) gE_43 uX0 rfl 0 (by decide) m_246 rfl rfl dX0_become_1 ?_
  refine lv_aload_n hx hb dX0_become_4 rfl (lv_at hl 1 rfl) ?_
  refine g_get hx hb ht hown hE hP (by decide) gE_1 uX0 rfl 0 (by decide) m_246 rfl rfl dX0_become_5 ?_
  obtain ⟨r2, σ1, hcr2, h⟩ := g_bd h
  refine g_callVv (As := [.ref (G.2.2.1 2)]) (n := 1) hx hb hml hown ht (c_X4_become_k l G _ hcr2) m_743 m_744 m_745 m_33 m_746 (by decide +kernel) (by decide) gE_44 rfl hE hP hS (fun _ h => h) (fun _ _ h => h) rfl hl.1 rfl (Nat.le_of_ble_eq_true rfl) dX0_become_8 ⟨by decide, by decide⟩ ⟨Nat.zero_le _, Nat.zero_le _⟩ (fun H locs hP hS => ?_)
  refine lv_aload_n hx hb dX0_become_11 rfl (lv_at hl 0 rfl) ?_
  refine g_get hx hb ht hown hE hP (by decide) gE_43 uX0 rfl 1 (by decide) m_248 rfl rfl dX0_become_12 ?_
  refine lv_aload_n hx hb dX0_become_15 rfl (lv_at hl 1 rfl) ?_
  refine g_get hx hb ht hown hE hP (by decide) gE_1 uX0 rfl 1 (by decide) m_248 rfl rfl dX0_become_16 ?_
  obtain ⟨r4, σ3, hcr4, h⟩ := g_bd h
  refine g_callVv (As := [.ref (G.2.2.1 11)]) (n := 1) hx hb hml hown ht (c_X5_become_k l G _ hcr4) m_751 m_752 m_753 m_34 m_754 (by decide +kernel) (by decide) gE_53 rfl hE hP hS (fun _ h => h) (fun _ _ h => h) rfl hl.1 rfl (Nat.le_of_ble_eq_true rfl) dX0_become_19 ⟨by decide, by decide⟩ ⟨Nat.zero_le _, Nat.zero_le _⟩ (fun H locs hP hS => ?_)
  refine lv_aload_n hx hb dX0_become_22 rfl (lv_at hl 0 rfl) ?_
  refine g_get hx hb ht hown hE hP (by decide) gE_43 uX0 rfl 2 (by decide) m_251 rfl rfl dX0_become_23 ?_
  refine lv_aload_n hx hb dX0_become_26 rfl (lv_at hl 1 rfl) ?_
  refine g_get hx hb ht hown hE hP (by decide) gE_1 uX0 rfl 2 (by decide) m_251 rfl rfl dX0_become_27 ?_
  obtain ⟨r6, σ5, hcr6, h⟩ := g_bd h
  refine g_callVv (As := [.ref (G.2.2.1 17)]) (n := 1) hx hb hml hown ht (c_X1_become_k l G _ hcr6) m_756 m_757 m_758 m_35 m_759 (by decide +kernel) (by decide) gE_59 rfl hE hP hS (fun _ h => h) (fun _ _ h => h) rfl hl.1 rfl (Nat.le_of_ble_eq_true rfl) dX0_become_30 ⟨by decide, by decide⟩ ⟨Nat.zero_le _, Nat.zero_le _⟩ (fun H locs hP hS => ?_)
  refine lv_aload_n hx hb dX0_become_33 rfl (lv_at hl 0 rfl) ?_
  refine g_get hx hb ht hown hE hP (by decide) gE_43 uX0 rfl 3 (by decide) m_254 rfl rfl dX0_become_34 ?_
  refine lv_aload_n hx hb dX0_become_37 rfl (lv_at hl 1 rfl) ?_
  refine g_get hx hb ht hown hE hP (by decide) gE_1 uX0 rfl 3 (by decide) m_254 rfl rfl dX0_become_38 ?_
  obtain ⟨r8, σ7, hcr8, h⟩ := g_bd h
  refine g_callVv (As := [.ref (G.2.2.1 26)]) (n := 1) hx hb hml hown ht (c_X2_become_k l G _ hcr8) m_761 m_762 m_763 m_36 m_764 (by decide +kernel) (by decide) gE_68 rfl hE hP hS (fun _ h => h) (fun _ _ h => h) rfl hl.1 rfl (Nat.le_of_ble_eq_true rfl) dX0_become_41 ⟨by decide, by decide⟩ ⟨Nat.zero_le _, Nat.zero_le _⟩ (fun H locs hP hS => ?_)
  refine lv_aload_n hx hb dX0_become_44 rfl (lv_at hl 0 rfl) ?_
  refine g_get hx hb ht hown hE hP (by decide) gE_43 uX0 rfl 4 (by decide) m_257 rfl rfl dX0_become_45 ?_
  refine lv_aload_n hx hb dX0_become_48 rfl (lv_at hl 1 rfl) ?_
  refine g_get hx hb ht hown hE hP (by decide) gE_1 uX0 rfl 4 (by decide) m_257 rfl rfl dX0_become_49 ?_
  obtain ⟨r10, σ9, hcr10, h⟩ := g_bd h
  refine g_callVv (As := [.ref (G.2.2.1 31)]) (n := 1) hx hb hml hown ht (c_X3_become_k l G _ hcr10) m_766 m_767 m_768 m_37 m_769 (by decide +kernel) (by decide) gE_73 rfl hE hP hS (fun _ h => h) (fun _ _ h => h) rfl hl.1 rfl (Nat.le_of_ble_eq_true rfl) dX0_become_52 ⟨by decide, by decide⟩ ⟨Nat.zero_le _, Nat.zero_le _⟩ (fun H locs hP hS => ?_)
  refine lv_aload_n hx hb dX0_become_55 rfl (lv_at hl 0 rfl) ?_
  refine g_get hx hb ht hown hE hP (by decide) gE_43 uX0 rfl 5 (by decide) m_259 rfl rfl dX0_become_56 ?_
  refine lv_aload_n hx hb dX0_become_59 rfl (lv_at hl 1 rfl) ?_
  refine g_get hx hb ht hown hE hP (by decide) gE_1 uX0 rfl 5 (by decide) m_259 rfl rfl dX0_become_60 ?_
  obtain ⟨r12, σ11, hcr12, h⟩ := g_bd h
  refine g_callVv (As := [.ref (G.2.2.1 38)]) (n := 1) hx hb hml hown ht (c_X6_become_k l G _ hcr12) m_771 m_772 m_773 m_38 m_774 (by decide +kernel) (by decide) gE_80 rfl hE hP hS (fun _ h => h) (fun _ _ h => h) rfl hl.1 rfl (Nat.le_of_ble_eq_true rfl) dX0_become_63 ⟨by decide, by decide⟩ ⟨Nat.zero_le _, Nat.zero_le _⟩ (fun H locs hP hS => ?_)
  refine lv_aload_n hx hb dX0_become_66 rfl (lv_at hl 0 rfl) ?_
  refine lv_aload_n hx hb dX0_become_67 rfl (lv_at hl 1 rfl) ?_
  refine g_get hx hb ht hown hE hP (by decide) gE_1 uX0 rfl 6 (by decide) m_261 rfl rfl dX0_become_68 ?_
  refine g_put hx hb ht hown hE hP hS (by decide) gE_43 uX0 tyX0_ok nmX0 rfl 6 (by decide) m_261 rfl rfl rfl rfl rfl (Nat.le_of_ble_eq_true rfl) rfl dX0_become_71 (fun H locs σ13 eσ13 hP hS => ?_)
  have h := g_nm eσ13 h
  exact g_vret (v := 0) (r := r) hx hb hr hlk hE hP hS h dX0_become_74

def L4_X4_become_b : Nat → Int32 → gSt → (Int32 → gSt → gO) → gO
  | 0, _, _, _ => none
  | nL4 + 1, l4_2, σL4, kL4 =>
    if 6 ≤ l4_2 then (kL4 l4_2 σL4) else (gIx 6 l4_2 (gIx 6 l4_2 (gBd (M_X9_copyRow (47 + l4_2.toNatClampNeg) (5 + l4_2.toNatClampNeg) 6 σL4) (fun r9 σ8 => gNm (l4_2 + 1 : Int32) (fun x10 => L4_X4_become_b nL4 x10 σ8 kL4)))))
def M_X4_become_b (σ : gSt) : gO :=
  gNm (gUp σ 2 0 (σ 44 0)) (fun σ1 => gBd (M_X9_copyRow 45 3 6 σ1) (fun r3 σ2 => L4_X4_become_b gFu 0 σ2 (fun z11 σ12 => some (0, σ12))))
set_option maxHeartbeats 4000000 in
set_option maxRecDepth 100000 in
theorem c_X4_become_b (l : Launch) (G : gPar) (σ : gSt) {r : Int32} {σ' : gSt} (h : M_X4_become_b σ = some (r, σ')) : gV l G yX4_become cX4_become 3 2 39 [.ref (G.2.2.1 2), .ref (G.2.2.1 44)] σ σ' := by
  refine gV_of (by decide) (Nat.le_of_ble_eq_true rfl) ?_
  intro p e s m below meth c hx hb hr ht hown hlk hml hE hP ls hl
  have hS : va_S (gA G) s.heap s.heap [] := va_S.rf
  have hl : lv_has ls 3 [(0, .ref (G.2.2.1 2)), (1, .ref (G.2.2.1 44))] := hl
  unfold M_X4_become_b at h
  refine lv_aload_n hx hb dX4_become_0 rfl (lv_at hl 0 rfl) ?_
  refine lv_aload_n hx hb dX4_become_1 rfl (lv_at hl 1 rfl) ?_
  refine g_get hx hb ht hown hE hP (by decide) gE_44 uX4 rfl 0 (by decide) m_68 rfl rfl dX4_become_2 ?_
  refine g_put hx hb ht hown hE hP hS (by decide) gE_2 uX4 tyX4_ok nmX4 rfl 0 (by decide) m_68 rfl rfl rfl rfl rfl (Nat.le_of_ble_eq_true rfl) rfl dX4_become_5 (fun H locs σ1 eσ1 hP hS => ?_)
  have h := g_nm eσ1 h
  refine lv_aload_n hx hb dX4_become_8 rfl (lv_at hl 1 rfl) ?_
  refine g_get hx hb ht hown hE hP (by decide) gE_44 uX4 rfl 1 (by decide) m_70 rfl rfl dX4_become_9 ?_
  refine lv_aload_n hx hb dX4_become_12 rfl (lv_at hl 0 rfl) ?_
  refine g_get hx hb ht hown hE hP (by decide) gE_2 uX4 rfl 1 (by decide) m_70 rfl rfl dX4_become_13 ?_
  obtain ⟨r3, σ2, hcr3, h⟩ := g_bd h
  refine g_callSNv (As := [.ref (G.2.2.1 45), .ref (G.2.2.1 3)]) (n := 2) (host := "PoorDesk") hx hb hml hown ht (c_X9_copyRow l G 45 3 6 (by decide) rfl (by decide) rfl (by decide) _ hcr3) (by decide +kernel) m_748 m_31 m_749 (by decide +kernel) hE hP hS (fun _ h => h) (fun _ _ h => h) rfl hl.1 rfl (Nat.le_of_ble_eq_true rfl) dX4_become_16 ⟨by decide, by decide⟩ ⟨Nat.zero_le _, Nat.zero_le _⟩ (fun H locs hP hS => ?_)
  refine lv_iconst (v := 0) hx hb dX4_become_19 (by decide) ?_
  refine lv_istore_n (lv' := [(2, .int 0), (0, .ref (G.2.2.1 2)), (1, .ref (G.2.2.1 44))]) hx hb dX4_become_20 rfl hl (by decide) rfl (fun ls hl => ?_)
  have LPL4 : ∀ (kL4 : Int32 → gSt → gO), (∀ (l4_2 : Int32) (σL4 : gSt) (H : Heap) (locs : List Loc) (ls : Array Slot), kL4 l4_2 σL4 = some (r, σ') → gW G σL4 H → va_S (gA G) s.heap H locs → lv_has ls 3 [(2, .int l4_2), (0, .ref (G.2.2.1 2)), (1, .ref (G.2.2.1 44))] → W p l e (gRm 2 39) s m ([.ref (G.2.2.1 2), .ref (G.2.2.1 44)].toArray) below meth c H locs 0 0 (MQ below (gQv G σ') ([.ref (G.2.2.1 2), .ref (G.2.2.1 44)].toArray) s 0 0 (gA G)) (F0 m 48 ls [])) → ∀ (nL4 : Nat) (l4_2 : Int32) (σL4 : gSt) (H : Heap) (locs : List Loc) (ls : Array Slot), L4_X4_become_b nL4 l4_2 σL4 kL4 = some (r, σ') → gW G σL4 H → va_S (gA G) s.heap H locs → lv_has ls 3 [(2, .int l4_2), (0, .ref (G.2.2.1 2)), (1, .ref (G.2.2.1 44))] → W p l e (gRm 2 39) s m ([.ref (G.2.2.1 2), .ref (G.2.2.1 44)].toArray) below meth c H locs 0 0 (MQ below (gQv G σ') ([.ref (G.2.2.1 2), .ref (G.2.2.1 44)].toArray) s 0 0 (gA G)) (F0 m 21 ls []) := by
    intro kL4 hKL4 nL4
    induction nL4 with
    | zero =>
      intro l4_2 σL4 H locs ls h
      cases h
    | succ nL4 ihL4 =>
      intro l4_2 σL4 H locs ls h hP hS hl
      rw [L4_X4_become_b] at h
      refine lv_iload_n hx hb dX4_become_21 rfl (lv_at hl 0 rfl) ?_
      refine lv_bipush (v := 6) hx hb dX4_become_22 (by decide) ?_
      refine lv_icmp_ge (tgt := 48) hx hb dX4_become_24 (by decide) (fun c5 => ?_) (fun c5 => ?_)
      · have h := g_ift c5 h
        exact hKL4 _ _ _ _ _ h hP hS (lv_sub hl [0, 1, 2] rfl)
      · have h := g_iff c5 h
        refine lv_aload_n hx hb dX4_become_27 rfl (lv_at hl 2 rfl) ?_
        refine g_get hx hb ht hown hE hP (by decide) gE_44 uX4 rfl 2 (by decide) m_71 rfl rfl dX4_become_28 ?_
        refine lv_iload_n hx hb dX4_become_31 rfl (lv_at hl 0 rfl) ?_
        obtain ⟨i6, h⟩ := g_ix h
        have ji6 := g_lt i6
        refine g_aald hx hb hE hP 1 (by decide) rfl rfl rfl i6 dX4_become_32 ?_
        refine lv_aload_n hx hb dX4_become_33 rfl (lv_at hl 1 rfl) ?_
        refine g_get hx hb ht hown hE hP (by decide) gE_2 uX4 rfl 2 (by decide) m_71 rfl rfl dX4_become_34 ?_
        refine lv_iload_n hx hb dX4_become_37 rfl (lv_at hl 0 rfl) ?_
        obtain ⟨i7, h⟩ := g_ix h
        have ji7 := g_lt i7
        refine g_aald hx hb hE hP 1 (by decide) rfl rfl rfl i7 dX4_become_38 ?_
        obtain ⟨r9, σ8, hcr9, h⟩ := g_bd h
        refine g_callSNv (As := [.ref (G.2.2.1 (47 + l4_2.toNatClampNeg)), .ref (G.2.2.1 (5 + l4_2.toNatClampNeg))]) (n := 2) (host := "PoorDesk") hx hb hml hown ht (c_X9_copyRow l G (47 + l4_2.toNatClampNeg) (5 + l4_2.toNatClampNeg) 6 (show 47 + l4_2.toNatClampNeg < 110 by omega) (gL_mile2 ji6) (show 5 + l4_2.toNatClampNeg < 110 by omega) (gL_mile ji7) (by decide) _ hcr9) (by decide +kernel) m_748 m_31 m_749 (by decide +kernel) hE hP hS (fun _ h => h) (fun _ _ h => h) rfl hl.1 rfl (Nat.le_of_ble_eq_true rfl) dX4_become_39 ⟨by decide, by decide⟩ ⟨Nat.zero_le _, Nat.zero_le _⟩ (fun H locs hP hS => ?_)
        obtain ⟨x10, ex10⟩ : ∃ y : Int32, y = l4_2 + 1 := ⟨_, rfl⟩
        have h := g_nm ex10 h
        refine lv_iinc (v := x10) (lv' := [(2, .int x10), (0, .ref (G.2.2.1 2)), (1, .ref (G.2.2.1 44))]) hx hb dX4_become_42 hl (k := 0) rfl (by rw [ex10]; rfl) (by decide) rfl (fun ls hl => ?_)
        refine lv_goto (tgt := 21) hx hb dX4_become_45 (by decide) ?_
        exact ihL4 _ _ _ _ _ h hP hS (lv_sub hl [0, 1, 2] rfl)
  refine LPL4 _ (fun z11 σ12 H locs ls h hP hS hl => ?_) gFu _ _ _ _ _ h hP hS (lv_sub hl [0, 1, 2] rfl)
  exact g_vret (v := 0) (r := r) hx hb hr hlk hE hP hS h dX4_become_48

def M_X5_become_b (σ : gSt) : gO :=
  gNm (gUp σ 11 0 (σ 53 0)) (fun σ1 => gBd (M_X9_copyRow 54 12 10 σ1) (fun r3 σ2 => gBd (M_X9_copyRow 55 13 10 σ2) (fun r5 σ4 => gBd (M_X9_copyRow 56 14 10 σ4) (fun r7 σ6 => gBd (M_X9_copyRow 57 15 10 σ6) (fun r9 σ8 => gBd (M_X9_copyRow 58 16 10 σ8) (fun r11 σ10 => some (0, σ10)))))))
set_option maxHeartbeats 4000000 in
set_option maxRecDepth 100000 in
theorem c_X5_become_b (l : Launch) (G : gPar) (σ : gSt) {r : Int32} {σ' : gSt} (h : M_X5_become_b σ = some (r, σ')) : gV l G yX5_become cX5_become 2 2 39 [.ref (G.2.2.1 11), .ref (G.2.2.1 53)] σ σ' := by
  refine gV_of (by decide) (Nat.le_of_ble_eq_true rfl) ?_
  intro p e s m below meth c hx hb hr ht hown hlk hml hE hP ls hl
  have hS : va_S (gA G) s.heap s.heap [] := va_S.rf
  have hl : lv_has ls 2 [(0, .ref (G.2.2.1 11)), (1, .ref (G.2.2.1 53))] := hl
  unfold M_X5_become_b at h
  refine lv_aload_n hx hb dX5_become_0 rfl (lv_at hl 0 rfl) ?_
  refine lv_aload_n hx hb dX5_become_1 rfl (lv_at hl 1 rfl) ?_
  refine g_get hx hb ht hown hE hP (by decide) gE_53 uX5 rfl 0 (by decide) m_87 rfl rfl dX5_become_2 ?_
  refine g_put hx hb ht hown hE hP hS (by decide) gE_11 uX5 tyX5_ok nmX5 rfl 0 (by decide) m_87 rfl rfl rfl rfl rfl (Nat.le_of_ble_eq_true rfl) rfl dX5_become_5 (fun H locs σ1 eσ1 hP hS => ?_)
  have h := g_nm eσ1 h
  refine lv_aload_n hx hb dX5_become_8 rfl (lv_at hl 1 rfl) ?_
  refine g_get hx hb ht hown hE hP (by decide) gE_53 uX5 rfl 1 (by decide) m_90 rfl rfl dX5_become_9 ?_
  refine lv_aload_n hx hb dX5_become_12 rfl (lv_at hl 0 rfl) ?_
  refine g_get hx hb ht hown hE hP (by decide) gE_11 uX5 rfl 1 (by decide) m_90 rfl rfl dX5_become_13 ?_
  obtain ⟨r3, σ2, hcr3, h⟩ := g_bd h
  refine g_callSNv (As := [.ref (G.2.2.1 54), .ref (G.2.2.1 12)]) (n := 2) (host := "PoorDesk") hx hb hml hown ht (c_X9_copyRow l G 54 12 10 (by decide) rfl (by decide) rfl (by decide) _ hcr3) (by decide +kernel) m_748 m_31 m_749 (by decide +kernel) hE hP hS (fun _ h => h) (fun _ _ h => h) rfl hl.1 rfl (Nat.le_of_ble_eq_true rfl) dX5_become_16 ⟨by decide, by decide⟩ ⟨Nat.zero_le _, Nat.zero_le _⟩ (fun H locs hP hS => ?_)
  refine lv_aload_n hx hb dX5_become_19 rfl (lv_at hl 1 rfl) ?_
  refine g_get hx hb ht hown hE hP (by decide) gE_53 uX5 rfl 2 (by decide) m_93 rfl rfl dX5_become_20 ?_
  refine lv_aload_n hx hb dX5_become_23 rfl (lv_at hl 0 rfl) ?_
  refine g_get hx hb ht hown hE hP (by decide) gE_11 uX5 rfl 2 (by decide) m_93 rfl rfl dX5_become_24 ?_
  obtain ⟨r5, σ4, hcr5, h⟩ := g_bd h
  refine g_callSNv (As := [.ref (G.2.2.1 55), .ref (G.2.2.1 13)]) (n := 2) (host := "PoorDesk") hx hb hml hown ht (c_X9_copyRow l G 55 13 10 (by decide) rfl (by decide) rfl (by decide) _ hcr5) (by decide +kernel) m_748 m_31 m_749 (by decide +kernel) hE hP hS (fun _ h => h) (fun _ _ h => h) rfl hl.1 rfl (Nat.le_of_ble_eq_true rfl) dX5_become_27 ⟨by decide, by decide⟩ ⟨Nat.zero_le _, Nat.zero_le _⟩ (fun H locs hP hS => ?_)
  refine lv_aload_n hx hb dX5_become_30 rfl (lv_at hl 1 rfl) ?_
  refine g_get hx hb ht hown hE hP (by decide) gE_53 uX5 rfl 3 (by decide) m_95 rfl rfl dX5_become_31 ?_
  refine lv_aload_n hx hb dX5_become_34 rfl (lv_at hl 0 rfl) ?_
  refine g_get hx hb ht hown hE hP (by decide) gE_11 uX5 rfl 3 (by decide) m_95 rfl rfl dX5_become_35 ?_
  obtain ⟨r7, σ6, hcr7, h⟩ := g_bd h
  refine g_callSNv (As := [.ref (G.2.2.1 56), .ref (G.2.2.1 14)]) (n := 2) (host := "PoorDesk") hx hb hml hown ht (c_X9_copyRow l G 56 14 10 (by decide) rfl (by decide) rfl (by decide) _ hcr7) (by decide +kernel) m_748 m_31 m_749 (by decide +kernel) hE hP hS (fun _ h => h) (fun _ _ h => h) rfl hl.1 rfl (Nat.le_of_ble_eq_true rfl) dX5_become_38 ⟨by decide, by decide⟩ ⟨Nat.zero_le _, Nat.zero_le _⟩ (fun H locs hP hS => ?_)
  refine lv_aload_n hx hb dX5_become_41 rfl (lv_at hl 1 rfl) ?_
  refine g_get hx hb ht hown hE hP (by decide) gE_53 uX5 rfl 4 (by decide) m_97 rfl rfl dX5_become_42 ?_
  refine lv_aload_n hx hb dX5_become_45 rfl (lv_at hl 0 rfl) ?_
  refine g_get hx hb ht hown hE hP (by decide) gE_11 uX5 rfl 4 (by decide) m_97 rfl rfl dX5_become_46 ?_
  obtain ⟨r9, σ8, hcr9, h⟩ := g_bd h
  refine g_callSNv (As := [.ref (G.2.2.1 57), .ref (G.2.2.1 15)]) (n := 2) (host := "PoorDesk") hx hb hml hown ht (c_X9_copyRow l G 57 15 10 (by decide) rfl (by decide) rfl (by decide) _ hcr9) (by decide +kernel) m_748 m_31 m_749 (by decide +kernel) hE hP hS (fun _ h => h) (fun _ _ h => h) rfl hl.1 rfl (Nat.le_of_ble_eq_true rfl) dX5_become_49 ⟨by decide, by decide⟩ ⟨Nat.zero_le _, Nat.zero_le _⟩ (fun H locs hP hS => ?_)
  refine lv_aload_n hx hb dX5_become_52 rfl (lv_at hl 1 rfl) ?_
  refine g_get hx hb ht hown hE hP (by decide) gE_53 uX5 rfl 5 (by decide) m_100 rfl rfl dX5_become_53 ?_
  refine lv_aload_n hx hb dX5_become_56 rfl (lv_at hl 0 rfl) ?_
  refine g_get hx hb ht hown hE hP (by decide) gE_11 uX5 rfl 5 (by decide) m_100 rfl rfl dX5_become_57 ?_
  obtain ⟨r11, σ10, hcr11, h⟩ := g_bd h
  refine g_callSNv (As := [.ref (G.2.2.1 58), .ref (G.2.2.1 16)]) (n := 2) (host := "PoorDesk") hx hb hml hown ht (c_X9_copyRow l G 58 16 10 (by decide) rfl (by decide) rfl (by decide) _ hcr11) (by decide +kernel) m_748 m_31 m_749 (by decide +kernel) hE hP hS (fun _ h => h) (fun _ _ h => h) rfl hl.1 rfl (Nat.le_of_ble_eq_true rfl) dX5_become_60 ⟨by decide, by decide⟩ ⟨Nat.zero_le _, Nat.zero_le _⟩ (fun H locs hP hS => ?_)
  exact g_vret (v := 0) (r := r) hx hb hr hlk hE hP hS h dX5_become_63

def M_X1_become_b (σ : gSt) : gO :=
  gNm (gUp σ 17 0 (σ 59 0)) (fun σ1 => gBd (M_X9_copyRow 60 18 24 σ1) (fun r3 σ2 => gBd (M_X9_copyRow 61 19 24 σ2) (fun r5 σ4 => gBd (M_X9_copyRow 62 20 24 σ4) (fun r7 σ6 => gBd (M_X9_copyRow 63 21 24 σ6) (fun r9 σ8 => gBd (M_X9_copyRow 64 22 24 σ8) (fun r11 σ10 => gBd (M_X9_copyRow 65 23 24 σ10) (fun r13 σ12 => gBd (M_X9_copyRow 66 24 24 σ12) (fun r15 σ14 => gBd (M_X9_copyRow 67 25 24 σ14) (fun r17 σ16 => some (0, σ16))))))))))
set_option maxHeartbeats 4000000 in
set_option maxRecDepth 100000 in
theorem c_X1_become_b (l : Launch) (G : gPar) (σ : gSt) {r : Int32} {σ' : gSt} (h : M_X1_become_b σ = some (r, σ')) : gV l G yX1_become cX1_become 2 2 39 [.ref (G.2.2.1 17), .ref (G.2.2.1 59)] σ σ' := by
  refine gV_of (by decide) (Nat.le_of_ble_eq_true rfl) ?_
  intro p e s m below meth c hx hb hr ht hown hlk hml hE hP ls hl
  have hS : va_S (gA G) s.heap s.heap [] := va_S.rf
  have hl : lv_has ls 2 [(0, .ref (G.2.2.1 17)), (1, .ref (G.2.2.1 59))] := hl
  unfold M_X1_become_b at h
  refine lv_aload_n hx hb dX1_become_0 rfl (lv_at hl 0 rfl) ?_
  refine lv_aload_n hx hb dX1_become_1 rfl (lv_at hl 1 rfl) ?_
  refine g_get hx hb ht hown hE hP (by decide) gE_59 uX1 rfl 0 (by decide) m_121 rfl rfl dX1_become_2 ?_
  refine g_put hx hb ht hown hE hP hS (by decide) gE_17 uX1 tyX1_ok nmX1 rfl 0 (by decide) m_121 rfl rfl rfl rfl rfl (Nat.le_of_ble_eq_true rfl) rfl dX1_become_5 (fun H locs σ1 eσ1 hP hS => ?_)
  have h := g_nm eσ1 h
  refine lv_aload_n hx hb dX1_become_8 rfl (lv_at hl 1 rfl) ?_
  refine g_get hx hb ht hown hE hP (by decide) gE_59 uX1 rfl 1 (by decide) m_124 rfl rfl dX1_become_9 ?_
  refine lv_aload_n hx hb dX1_become_12 rfl (lv_at hl 0 rfl) ?_
  refine g_get hx hb ht hown hE hP (by decide) gE_17 uX1 rfl 1 (by decide) m_124 rfl rfl dX1_become_13 ?_
  obtain ⟨r3, σ2, hcr3, h⟩ := g_bd h
  refine g_callSNv (As := [.ref (G.2.2.1 60), .ref (G.2.2.1 18)]) (n := 2) (host := "PoorDesk") hx hb hml hown ht (c_X9_copyRow l G 60 18 24 (by decide) rfl (by decide) rfl (by decide) _ hcr3) (by decide +kernel) m_748 m_31 m_749 (by decide +kernel) hE hP hS (fun _ h => h) (fun _ _ h => h) rfl hl.1 rfl (Nat.le_of_ble_eq_true rfl) dX1_become_16 ⟨by decide, by decide⟩ ⟨Nat.zero_le _, Nat.zero_le _⟩ (fun H locs hP hS => ?_)
  refine lv_aload_n hx hb dX1_become_19 rfl (lv_at hl 1 rfl) ?_
  refine g_get hx hb ht hown hE hP (by decide) gE_59 uX1 rfl 2 (by decide) m_126 rfl rfl dX1_become_20 ?_
  refine lv_aload_n hx hb dX1_become_23 rfl (lv_at hl 0 rfl) ?_
  refine g_get hx hb ht hown hE hP (by decide) gE_17 uX1 rfl 2 (by decide) m_126 rfl rfl dX1_become_24 ?_
  obtain ⟨r5, σ4, hcr5, h⟩ := g_bd h
  refine g_callSNv (As := [.ref (G.2.2.1 61), .ref (G.2.2.1 19)]) (n := 2) (host := "PoorDesk") hx hb hml hown ht (c_X9_copyRow l G 61 19 24 (by decide) rfl (by decide) rfl (by decide) _ hcr5) (by decide +kernel) m_748 m_31 m_749 (by decide +kernel) hE hP hS (fun _ h => h) (fun _ _ h => h) rfl hl.1 rfl (Nat.le_of_ble_eq_true rfl) dX1_become_27 ⟨by decide, by decide⟩ ⟨Nat.zero_le _, Nat.zero_le _⟩ (fun H locs hP hS => ?_)
  refine lv_aload_n hx hb dX1_become_30 rfl (lv_at hl 1 rfl) ?_
  refine g_get hx hb ht hown hE hP (by decide) gE_59 uX1 rfl 3 (by decide) m_128 rfl rfl dX1_become_31 ?_
  refine lv_aload_n hx hb dX1_become_34 rfl (lv_at hl 0 rfl) ?_
  refine g_get hx hb ht hown hE hP (by decide) gE_17 uX1 rfl 3 (by decide) m_128 rfl rfl dX1_become_35 ?_
  obtain ⟨r7, σ6, hcr7, h⟩ := g_bd h
  refine g_callSNv (As := [.ref (G.2.2.1 62), .ref (G.2.2.1 20)]) (n := 2) (host := "PoorDesk") hx hb hml hown ht (c_X9_copyRow l G 62 20 24 (by decide) rfl (by decide) rfl (by decide) _ hcr7) (by decide +kernel) m_748 m_31 m_749 (by decide +kernel) hE hP hS (fun _ h => h) (fun _ _ h => h) rfl hl.1 rfl (Nat.le_of_ble_eq_true rfl) dX1_become_38 ⟨by decide, by decide⟩ ⟨Nat.zero_le _, Nat.zero_le _⟩ (fun H locs hP hS => ?_)
  refine lv_aload_n hx hb dX1_become_41 rfl (lv_at hl 1 rfl) ?_
  refine g_get hx hb ht hown hE hP (by decide) gE_59 uX1 rfl 4 (by decide) m_130 rfl rfl dX1_become_42 ?_
  refine lv_aload_n hx hb dX1_become_45 rfl (lv_at hl 0 rfl) ?_
  refine g_get hx hb ht hown hE hP (by decide) gE_17 uX1 rfl 4 (by decide) m_130 rfl rfl dX1_become_46 ?_
  obtain ⟨r9, σ8, hcr9, h⟩ := g_bd h
  refine g_callSNv (As := [.ref (G.2.2.1 63), .ref (G.2.2.1 21)]) (n := 2) (host := "PoorDesk") hx hb hml hown ht (c_X9_copyRow l G 63 21 24 (by decide) rfl (by decide) rfl (by decide) _ hcr9) (by decide +kernel) m_748 m_31 m_749 (by decide +kernel) hE hP hS (fun _ h => h) (fun _ _ h => h) rfl hl.1 rfl (Nat.le_of_ble_eq_true rfl) dX1_become_49 ⟨by decide, by decide⟩ ⟨Nat.zero_le _, Nat.zero_le _⟩ (fun H locs hP hS => ?_)
  refine lv_aload_n hx hb dX1_become_52 rfl (lv_at hl 1 rfl) ?_
  refine g_get hx hb ht hown hE hP (by decide) gE_59 uX1 rfl 5 (by decide) m_132 rfl rfl dX1_become_53 ?_
  refine lv_aload_n hx hb dX1_become_56 rfl (lv_at hl 0 rfl) ?_
  refine g_get hx hb ht hown hE hP (by decide) gE_17 uX1 rfl 5 (by decide) m_132 rfl rfl dX1_become_57 ?_
  obtain ⟨r11, σ10, hcr11, h⟩ := g_bd h
  refine g_callSNv (As := [.ref (G.2.2.1 64), .ref (G.2.2.1 22)]) (n := 2) (host := "PoorDesk") hx hb hml hown ht (c_X9_copyRow l G 64 22 24 (by decide) rfl (by decide) rfl (by decide) _ hcr11) (by decide +kernel) m_748 m_31 m_749 (by decide +kernel) hE hP hS (fun _ h => h) (fun _ _ h => h) rfl hl.1 rfl (Nat.le_of_ble_eq_true rfl) dX1_become_60 ⟨by decide, by decide⟩ ⟨Nat.zero_le _, Nat.zero_le _⟩ (fun H locs hP hS => ?_)
  refine lv_aload_n hx hb dX1_become_63 rfl (lv_at hl 1 rfl) ?_
  refine g_get hx hb ht hown hE hP (by decide) gE_59 uX1 rfl 6 (by decide) m_134 rfl rfl dX1_become_64 ?_
  refine lv_aload_n hx hb dX1_become_67 rfl (lv_at hl 0 rfl) ?_
  refine g_get hx hb ht hown hE hP (by decide) gE_17 uX1 rfl 6 (by decide) m_134 rfl rfl dX1_become_68 ?_
  obtain ⟨r13, σ12, hcr13, h⟩ := g_bd h
  refine g_callSNv (As := [.ref (G.2.2.1 65), .ref (G.2.2.1 23)]) (n := 2) (host := "PoorDesk") hx hb hml hown ht (c_X9_copyRow l G 65 23 24 (by decide) rfl (by decide) rfl (by decide) _ hcr13) (by decide +kernel) m_748 m_31 m_749 (by decide +kernel) hE hP hS (fun _ h => h) (fun _ _ h => h) rfl hl.1 rfl (Nat.le_of_ble_eq_true rfl) dX1_become_71 ⟨by decide, by decide⟩ ⟨Nat.zero_le _, Nat.zero_le _⟩ (fun H locs hP hS => ?_)
  refine lv_aload_n hx hb dX1_become_74 rfl (lv_at hl 1 rfl) ?_
  refine g_get hx hb ht hown hE hP (by decide) gE_59 uX1 rfl 7 (by decide) m_136 rfl rfl dX1_become_75 ?_
  refine lv_aload_n hx hb dX1_become_78 rfl (lv_at hl 0 rfl) ?_
  refine g_get hx hb ht hown hE hP (by decide) gE_17 uX1 rfl 7 (by decide) m_136 rfl rfl dX1_become_79 ?_
  obtain ⟨r15, σ14, hcr15, h⟩ := g_bd h
  refine g_callSNv (As := [.ref (G.2.2.1 66), .ref (G.2.2.1 24)]) (n := 2) (host := "PoorDesk") hx hb hml hown ht (c_X9_copyRow l G 66 24 24 (by decide) rfl (by decide) rfl (by decide) _ hcr15) (by decide +kernel) m_748 m_31 m_749 (by decide +kernel) hE hP hS (fun _ h => h) (fun _ _ h => h) rfl hl.1 rfl (Nat.le_of_ble_eq_true rfl) dX1_become_82 ⟨by decide, by decide⟩ ⟨Nat.zero_le _, Nat.zero_le _⟩ (fun H locs hP hS => ?_)
  refine lv_aload_n hx hb dX1_become_85 rfl (lv_at hl 1 rfl) ?_
  refine g_get hx hb ht hown hE hP (by decide) gE_59 uX1 rfl 8 (by decide) m_138 rfl rfl dX1_become_86 ?_
  refine lv_aload_n hx hb dX1_become_89 rfl (lv_at hl 0 rfl) ?_
  refine g_get hx hb ht hown hE hP (by decide) gE_17 uX1 rfl 8 (by decide) m_138 rfl rfl dX1_become_90 ?_
  obtain ⟨r17, σ16, hcr17, h⟩ := g_bd h
  refine g_callSNv (As := [.ref (G.2.2.1 67), .ref (G.2.2.1 25)]) (n := 2) (host := "PoorDesk") hx hb hml hown ht (c_X9_copyRow l G 67 25 24 (by decide) rfl (by decide) rfl (by decide) _ hcr17) (by decide +kernel) m_748 m_31 m_749 (by decide +kernel) hE hP hS (fun _ h => h) (fun _ _ h => h) rfl hl.1 rfl (Nat.le_of_ble_eq_true rfl) dX1_become_93 ⟨by decide, by decide⟩ ⟨Nat.zero_le _, Nat.zero_le _⟩ (fun H locs hP hS => ?_)
  exact g_vret (v := 0) (r := r) hx hb hr hlk hE hP hS h dX1_become_96

def M_X2_become_b (σ : gSt) : gO :=
  gNm (gUp σ 26 0 (σ 68 0)) (fun σ1 => gBd (M_X9_copyRow 69 27 12 σ1) (fun r3 σ2 => gBd (M_X9_copyRow 70 28 12 σ2) (fun r5 σ4 => gBd (M_X9_copyRow 71 29 12 σ4) (fun r7 σ6 => gBd (M_X9_copyRow 72 30 12 σ6) (fun r9 σ8 => some (0, σ8))))))
set_option maxHeartbeats 4000000 in
set_option maxRecDepth 100000 in
theorem c_X2_become_b (l : Launch) (G : gPar) (σ : gSt) {r : Int32} {σ' : gSt} (h : M_X2_become_b σ = some (r, σ')) : gV l G yX2_become cX2_become 2 2 39 [.ref (G.2.2.1 26), .ref (G.2.2.1 68)] σ σ' := by
  refine gV_of (by decide) (Nat.le_of_ble_eq_true rfl) ?_
  intro p e s m below meth c hx hb hr ht hown hlk hml hE hP ls hl
  have hS : va_S (gA G) s.heap s.heap [] := va_S.rf
  have hl : lv_has ls 2 [(0, .ref (G.2.2.1 26)), (1, .ref (G.2.2.1 68))] := hl
  unfold M_X2_become_b at h
  refine lv_aload_n hx hb dX2_become_0 rfl (lv_at hl 0 rfl) ?_
  refine lv_aload_n hx hb dX2_become_1 rfl (lv_at hl 1 rfl) ?_
  refine g_get hx hb ht hown hE hP (by decide) gE_68 uX2 rfl 0 (by decide) m_165 rfl rfl dX2_become_2 ?_
  refine g_put hx hb ht hown hE hP hS (by decide) gE_26 uX2 tyX2_ok nmX2 rfl 0 (by decide) m_165 rfl rfl rfl rfl rfl (Nat.le_of_ble_eq_true rfl) rfl dX2_become_5 (fun H locs σ1 eσ1 hP hS => ?_)
  have h := g_nm eσ1 h
  refine lv_aload_n hx hb dX2_become_8 rfl (lv_at hl 1 rfl) ?_
  refine g_get hx hb ht hown hE hP (by decide) gE_68 uX2 rfl 1 (by decide) m_167 rfl rfl dX2_become_9 ?_
  refine lv_aload_n hx hb dX2_become_12 rfl (lv_at hl 0 rfl) ?_
  refine g_get hx hb ht hown hE hP (by decide) gE_26 uX2 rfl 1 (by decide) m_167 rfl rfl dX2_become_13 ?_
  obtain ⟨r3, σ2, hcr3, h⟩ := g_bd h
  refine g_callSNv (As := [.ref (G.2.2.1 69), .ref (G.2.2.1 27)]) (n := 2) (host := "PoorDesk") hx hb hml hown ht (c_X9_copyRow l G 69 27 12 (by decide) rfl (by decide) rfl (by decide) _ hcr3) (by decide +kernel) m_748 m_31 m_749 (by decide +kernel) hE hP hS (fun _ h => h) (fun _ _ h => h) rfl hl.1 rfl (Nat.le_of_ble_eq_true rfl) dX2_become_16 ⟨by decide, by decide⟩ ⟨Nat.zero_le _, Nat.zero_le _⟩ (fun H locs hP hS => ?_)
  refine lv_aload_n hx hb dX2_become_19 rfl (lv_at hl 1 rfl) ?_
  refine g_get hx hb ht hown hE hP (by decide) gE_68 uX2 rfl 2 (by decide) m_168 rfl rfl dX2_become_20 ?_
  refine lv_aload_n hx hb dX2_become_23 rfl (lv_at hl 0 rfl) ?_
  refine g_get hx hb ht hown hE hP (by decide) gE_26 uX2 rfl 2 (by decide) m_168 rfl rfl dX2_become_24 ?_
  obtain ⟨r5, σ4, hcr5, h⟩ := g_bd h
  refine g_callSNv (As := [.ref (G.2.2.1 70), .ref (G.2.2.1 28)]) (n := 2) (host := "PoorDesk") hx hb hml hown ht (c_X9_copyRow l G 70 28 12 (by decide) rfl (by decide) rfl (by decide) _ hcr5) (by decide +kernel) m_748 m_31 m_749 (by decide +kernel) hE hP hS (fun _ h => h) (fun _ _ h => h) rfl hl.1 rfl (Nat.le_of_ble_eq_true rfl) dX2_become_27 ⟨by decide, by decide⟩ ⟨Nat.zero_le _, Nat.zero_le _⟩ (fun H locs hP hS => ?_)
  refine lv_aload_n hx hb dX2_become_30 rfl (lv_at hl 1 rfl) ?_
  refine g_get hx hb ht hown hE hP (by decide) gE_68 uX2 rfl 3 (by decide) m_169 rfl rfl dX2_become_31 ?_
  refine lv_aload_n hx hb dX2_become_34 rfl (lv_at hl 0 rfl) ?_
  refine g_get hx hb ht hown hE hP (by decide) gE_26 uX2 rfl 3 (by decide) m_169 rfl rfl dX2_become_35 ?_
  obtain ⟨r7, σ6, hcr7, h⟩ := g_bd h
  refine g_callSNv (As := [.ref (G.2.2.1 71), .ref (G.2.2.1 29)]) (n := 2) (host := "PoorDesk") hx hb hml hown ht (c_X9_copyRow l G 71 29 12 (by decide) rfl (by decide) rfl (by decide) _ hcr7) (by decide +kernel) m_748 m_31 m_749 (by decide +kernel) hE hP hS (fun _ h => h) (fun _ _ h => h) rfl hl.1 rfl (Nat.le_of_ble_eq_true rfl) dX2_become_38 ⟨by decide, by decide⟩ ⟨Nat.zero_le _, Nat.zero_le _⟩ (fun H locs hP hS => ?_)
  refine lv_aload_n hx hb dX2_become_41 rfl (lv_at hl 1 rfl) ?_
  refine g_get hx hb ht hown hE hP (by decide) gE_68 uX2 rfl 4 (by decide) m_171 rfl rfl dX2_become_42 ?_
  refine lv_aload_n hx hb dX2_become_45 rfl (lv_at hl 0 rfl) ?_
  refine g_get hx hb ht hown hE hP (by decide) gE_26 uX2 rfl 4 (by decide) m_171 rfl rfl dX2_become_46 ?_
  obtain ⟨r9, σ8, hcr9, h⟩ := g_bd h
  refine g_callSNv (As := [.ref (G.2.2.1 72), .ref (G.2.2.1 30)]) (n := 2) (host := "PoorDesk") hx hb hml hown ht (c_X9_copyRow l G 72 30 12 (by decide) rfl (by decide) rfl (by decide) _ hcr9) (by decide +kernel) m_748 m_31 m_749 (by decide +kernel) hE hP hS (fun _ h => h) (fun _ _ h => h) rfl hl.1 rfl (Nat.le_of_ble_eq_true rfl) dX2_become_49 ⟨by decide, by decide⟩ ⟨Nat.zero_le _, Nat.zero_le _⟩ (fun H locs hP hS => ?_)
  exact g_vret (v := 0) (r := r) hx hb hr hlk hE hP hS h dX2_become_52

def M_X3_become_b (σ : gSt) : gO :=
  gNm (gUp σ 31 0 (σ 73 0)) (fun σ1 => gBd (M_X9_copyRow 74 32 20 σ1) (fun r3 σ2 => gBd (M_X9_copyRow 75 33 20 σ2) (fun r5 σ4 => gBd (M_X9_copyRow 76 34 20 σ4) (fun r7 σ6 => gBd (M_X9_copyRow 77 35 20 σ6) (fun r9 σ8 => gBd (M_X9_copyRow 78 36 20 σ8) (fun r11 σ10 => gBd (M_X9_copyRow 79 37 20 σ10) (fun r13 σ12 => some (0, σ12))))))))
set_option maxHeartbeats 4000000 in
set_option maxRecDepth 100000 in
theorem c_X3_become_b (l : Launch) (G : gPar) (σ : gSt) {r : Int32} {σ' : gSt} (h : M_X3_become_b σ = some (r, σ')) : gV l G yX3_become cX3_become 2 2 39 [.ref (G.2.2.1 31), .ref (G.2.2.1 73)] σ σ' := by
  refine gV_of (by decide) (Nat.le_of_ble_eq_true rfl) ?_
  intro p e s m below meth c hx hb hr ht hown hlk hml hE hP ls hl
  have hS : va_S (gA G) s.heap s.heap [] := va_S.rf
  have hl : lv_has ls 2 [(0, .ref (G.2.2.1 31)), (1, .ref (G.2.2.1 73))] := hl
  unfold M_X3_become_b at h
  refine lv_aload_n hx hb dX3_become_0 rfl (lv_at hl 0 rfl) ?_
  refine lv_aload_n hx hb dX3_become_1 rfl (lv_at hl 1 rfl) ?_
  refine g_get hx hb ht hown hE hP (by decide) gE_73 uX3 rfl 0 (by decide) m_190 rfl rfl dX3_become_2 ?_
  refine g_put hx hb ht hown hE hP hS (by decide) gE_31 uX3 tyX3_ok nmX3 rfl 0 (by decide) m_190 rfl rfl rfl rfl rfl (Nat.le_of_ble_eq_true rfl) rfl dX3_become_5 (fun H locs σ1 eσ1 hP hS => ?_)
  have h := g_nm eσ1 h
  refine lv_aload_n hx hb dX3_become_8 rfl (lv_at hl 1 rfl) ?_
  refine g_get hx hb ht hown hE hP (by decide) gE_73 uX3 rfl 1 (by decide) m_192 rfl rfl dX3_become_9 ?_
  refine lv_aload_n hx hb dX3_become_12 rfl (lv_at hl 0 rfl) ?_
  refine g_get hx hb ht hown hE hP (by decide) gE_31 uX3 rfl 1 (by decide) m_192 rfl rfl dX3_become_13 ?_
  obtain ⟨r3, σ2, hcr3, h⟩ := g_bd h
  refine g_callSNv (As := [.ref (G.2.2.1 74), .ref (G.2.2.1 32)]) (n := 2) (host := "PoorDesk") hx hb hml hown ht (c_X9_copyRow l G 74 32 20 (by decide) rfl (by decide) rfl (by decide) _ hcr3) (by decide +kernel) m_748 m_31 m_749 (by decide +kernel) hE hP hS (fun _ h => h) (fun _ _ h => h) rfl hl.1 rfl (Nat.le_of_ble_eq_true rfl) dX3_become_16 ⟨by decide, by decide⟩ ⟨Nat.zero_le _, Nat.zero_le _⟩ (fun H locs hP hS => ?_)
  refine lv_aload_n hx hb dX3_become_19 rfl (lv_at hl 1 rfl) ?_
  refine g_get hx hb ht hown hE hP (by decide) gE_73 uX3 rfl 2 (by decide) m_194 rfl rfl dX3_become_20 ?_
  refine lv_aload_n hx hb dX3_become_23 rfl (lv_at hl 0 rfl) ?_
  refine g_get hx hb ht hown hE hP (by decide) gE_31 uX3 rfl 2 (by decide) m_194 rfl rfl dX3_become_24 ?_
  obtain ⟨r5, σ4, hcr5, h⟩ := g_bd h
  refine g_callSNv (As := [.ref (G.2.2.1 75), .ref (G.2.2.1 33)]) (n := 2) (host := "PoorDesk") hx hb hml hown ht (c_X9_copyRow l G 75 33 20 (by decide) rfl (by decide) rfl (by decide) _ hcr5) (by decide +kernel) m_748 m_31 m_749 (by decide +kernel) hE hP hS (fun _ h => h) (fun _ _ h => h) rfl hl.1 rfl (Nat.le_of_ble_eq_true rfl) dX3_become_27 ⟨by decide, by decide⟩ ⟨Nat.zero_le _, Nat.zero_le _⟩ (fun H locs hP hS => ?_)
  refine lv_aload_n hx hb dX3_become_30 rfl (lv_at hl 1 rfl) ?_
  refine g_get hx hb ht hown hE hP (by decide) gE_73 uX3 rfl 3 (by decide) m_196 rfl rfl dX3_become_31 ?_
  refine lv_aload_n hx hb dX3_become_34 rfl (lv_at hl 0 rfl) ?_
  refine g_get hx hb ht hown hE hP (by decide) gE_31 uX3 rfl 3 (by decide) m_196 rfl rfl dX3_become_35 ?_
  obtain ⟨r7, σ6, hcr7, h⟩ := g_bd h
  refine g_callSNv (As := [.ref (G.2.2.1 76), .ref (G.2.2.1 34)]) (n := 2) (host := "PoorDesk") hx hb hml hown ht (c_X9_copyRow l G 76 34 20 (by decide) rfl (by decide) rfl (by decide) _ hcr7) (by decide +kernel) m_748 m_31 m_749 (by decide +kernel) hE hP hS (fun _ h => h) (fun _ _ h => h) rfl hl.1 rfl (Nat.le_of_ble_eq_true rfl) dX3_become_38 ⟨by decide, by decide⟩ ⟨Nat.zero_le _, Nat.zero_le _⟩ (fun H locs hP hS => ?_)
  refine lv_aload_n hx hb dX3_become_41 rfl (lv_at hl 1 rfl) ?_
  refine g_get hx hb ht hown hE hP (by decide) gE_73 uX3 rfl 4 (by decide) m_198 rfl rfl dX3_become_42 ?_
  refine lv_aload_n hx hb dX3_become_45 rfl (lv_at hl 0 rfl) ?_
  refine g_get hx hb ht hown hE hP (by decide) gE_31 uX3 rfl 4 (by decide) m_198 rfl rfl dX3_become_46 ?_
  obtain ⟨r9, σ8, hcr9, h⟩ := g_bd h
  refine g_callSNv (As := [.ref (G.2.2.1 77), .ref (G.2.2.1 35)]) (n := 2) (host := "PoorDesk") hx hb hml hown ht (c_X9_copyRow l G 77 35 20 (by decide) rfl (by decide) rfl (by decide) _ hcr9) (by decide +kernel) m_748 m_31 m_749 (by decide +kernel) hE hP hS (fun _ h => h) (fun _ _ h => h) rfl hl.1 rfl (Nat.le_of_ble_eq_true rfl) dX3_become_49 ⟨by decide, by decide⟩ ⟨Nat.zero_le _, Nat.zero_le _⟩ (fun H locs hP hS => ?_)
  refine lv_aload_n hx hb dX3_become_52 rfl (lv_at hl 1 rfl) ?_
  refine g_get hx hb ht hown hE hP (by decide) gE_73 uX3 rfl 5 (by decide) m_200 rfl rfl dX3_become_53 ?_
  refine lv_aload_n hx hb dX3_become_56 rfl (lv_at hl 0 rfl) ?_
  refine g_get hx hb ht hown hE hP (by decide) gE_31 uX3 rfl 5 (by decide) m_200 rfl rfl dX3_become_57 ?_
  obtain ⟨r11, σ10, hcr11, h⟩ := g_bd h
  refine g_callSNv (As := [.ref (G.2.2.1 78), .ref (G.2.2.1 36)]) (n := 2) (host := "PoorDesk") hx hb hml hown ht (c_X9_copyRow l G 78 36 20 (by decide) rfl (by decide) rfl (by decide) _ hcr11) (by decide +kernel) m_748 m_31 m_749 (by decide +kernel) hE hP hS (fun _ h => h) (fun _ _ h => h) rfl hl.1 rfl (Nat.le_of_ble_eq_true rfl) dX3_become_60 ⟨by decide, by decide⟩ ⟨Nat.zero_le _, Nat.zero_le _⟩ (fun H locs hP hS => ?_)
  refine lv_aload_n hx hb dX3_become_63 rfl (lv_at hl 1 rfl) ?_
  refine g_get hx hb ht hown hE hP (by decide) gE_73 uX3 rfl 6 (by decide) m_202 rfl rfl dX3_become_64 ?_
  refine lv_aload_n hx hb dX3_become_67 rfl (lv_at hl 0 rfl) ?_
  refine g_get hx hb ht hown hE hP (by decide) gE_31 uX3 rfl 6 (by decide) m_202 rfl rfl dX3_become_68 ?_
  obtain ⟨r13, σ12, hcr13, h⟩ := g_bd h
  refine g_callSNv (As := [.ref (G.2.2.1 79), .ref (G.2.2.1 37)]) (n := 2) (host := "PoorDesk") hx hb hml hown ht (c_X9_copyRow l G 79 37 20 (by decide) rfl (by decide) rfl (by decide) _ hcr13) (by decide +kernel) m_748 m_31 m_749 (by decide +kernel) hE hP hS (fun _ h => h) (fun _ _ h => h) rfl hl.1 rfl (Nat.le_of_ble_eq_true rfl) dX3_become_71 ⟨by decide, by decide⟩ ⟨Nat.zero_le _, Nat.zero_le _⟩ (fun H locs hP hS => ?_)
  exact g_vret (v := 0) (r := r) hx hb hr hlk hE hP hS h dX3_become_74

def M_X6_become_b (σ : gSt) : gO :=
  gNm (gUp σ 38 0 (σ 80 0)) (fun σ1 => gBd (M_X9_copyRow 81 39 10 σ1) (fun r3 σ2 => gBd (M_X9_copyRow 82 40 10 σ2) (fun r5 σ4 => gBd (M_X9_copyRow 83 41 10 σ4) (fun r7 σ6 => gBd (M_X9_copyRow 84 42 60 σ6) (fun r9 σ8 => some (0, σ8))))))
set_option maxHeartbeats 4000000 in
set_option maxRecDepth 100000 in
theorem c_X6_become_b (l : Launch) (G : gPar) (σ : gSt) {r : Int32} {σ' : gSt} (h : M_X6_become_b σ = some (r, σ')) : gV l G yX6_become cX6_become 2 2 39 [.ref (G.2.2.1 38), .ref (G.2.2.1 80)] σ σ' := by
  refine gV_of (by decide) (Nat.le_of_ble_eq_true rfl) ?_
  intro p e s m below meth c hx hb hr ht hown hlk hml hE hP ls hl
  have hS : va_S (gA G) s.heap s.heap [] := va_S.rf
  have hl : lv_has ls 2 [(0, .ref (G.2.2.1 38)), (1, .ref (G.2.2.1 80))] := hl
  unfold M_X6_become_b at h
  refine lv_aload_n hx hb dX6_become_0 rfl (lv_at hl 0 rfl) ?_
  refine lv_aload_n hx hb dX6_become_1 rfl (lv_at hl 1 rfl) ?_
  refine g_get hx hb ht hown hE hP (by decide) gE_80 uX6 rfl 0 (by decide) m_225 rfl rfl dX6_become_2 ?_
  refine g_put hx hb ht hown hE hP hS (by decide) gE_38 uX6 tyX6_ok nmX6 rfl 0 (by decide) m_225 rfl rfl rfl rfl rfl (Nat.le_of_ble_eq_true rfl) rfl dX6_become_5 (fun H locs σ1 eσ1 hP hS => ?_)
  have h := g_nm eσ1 h
  refine lv_aload_n hx hb dX6_become_8 rfl (lv_at hl 1 rfl) ?_
  refine g_get hx hb ht hown hE hP (by decide) gE_80 uX6 rfl 1 (by decide) m_227 rfl rfl dX6_become_9 ?_
  refine lv_aload_n hx hb dX6_become_12 rfl (lv_at hl 0 rfl) ?_
  refine g_get hx hb ht hown hE hP (by decide) gE_38 uX6 rfl 1 (by decide) m_227 rfl rfl dX6_become_13 ?_
  obtain ⟨r3, σ2, hcr3, h⟩ := g_bd h
  refine g_callSNv (As := [.ref (G.2.2.1 81), .ref (G.2.2.1 39)]) (n := 2) (host := "PoorDesk") hx hb hml hown ht (c_X9_copyRow l G 81 39 10 (by decide) rfl (by decide) rfl (by decide) _ hcr3) (by decide +kernel) m_748 m_31 m_749 (by decide +kernel) hE hP hS (fun _ h => h) (fun _ _ h => h) rfl hl.1 rfl (Nat.le_of_ble_eq_true rfl) dX6_become_16 ⟨by decide, by decide⟩ ⟨Nat.zero_le _, Nat.zero_le _⟩ (fun H locs hP hS => ?_)
  refine lv_aload_n hx hb dX6_become_19 rfl (lv_at hl 1 rfl) ?_
  refine g_get hx hb ht hown hE hP (by decide) gE_80 uX6 rfl 2 (by decide) m_229 rfl rfl dX6_become_20 ?_
  refine lv_aload_n hx hb dX6_become_23 rfl (lv_at hl 0 rfl) ?_
  refine g_get hx hb ht hown hE hP (by decide) gE_38 uX6 rfl 2 (by decide) m_229 rfl rfl dX6_become_24 ?_
  obtain ⟨r5, σ4, hcr5, h⟩ := g_bd h
  refine g_callSNv (As := [.ref (G.2.2.1 82), .ref (G.2.2.1 40)]) (n := 2) (host := "PoorDesk") hx hb hml hown ht (c_X9_copyRow l G 82 40 10 (by decide) rfl (by decide) rfl (by decide) _ hcr5) (by decide +kernel) m_748 m_31 m_749 (by decide +kernel) hE hP hS (fun _ h => h) (fun _ _ h => h) rfl hl.1 rfl (Nat.le_of_ble_eq_true rfl) dX6_become_27 ⟨by decide, by decide⟩ ⟨Nat.zero_le _, Nat.zero_le _⟩ (fun H locs hP hS => ?_)
  refine lv_aload_n hx hb dX6_become_30 rfl (lv_at hl 1 rfl) ?_
  refine g_get hx hb ht hown hE hP (by decide) gE_80 uX6 rfl 3 (by decide) m_231 rfl rfl dX6_become_31 ?_
  refine lv_aload_n hx hb dX6_become_34 rfl (lv_at hl 0 rfl) ?_
  refine g_get hx hb ht hown hE hP (by decide) gE_38 uX6 rfl 3 (by decide) m_231 rfl rfl dX6_become_35 ?_
  obtain ⟨r7, σ6, hcr7, h⟩ := g_bd h
  refine g_callSNv (As := [.ref (G.2.2.1 83), .ref (G.2.2.1 41)]) (n := 2) (host := "PoorDesk") hx hb hml hown ht (c_X9_copyRow l G 83 41 10 (by decide) rfl (by decide) rfl (by decide) _ hcr7) (by decide +kernel) m_748 m_31 m_749 (by decide +kernel) hE hP hS (fun _ h => h) (fun _ _ h => h) rfl hl.1 rfl (Nat.le_of_ble_eq_true rfl) dX6_become_38 ⟨by decide, by decide⟩ ⟨Nat.zero_le _, Nat.zero_le _⟩ (fun H locs hP hS => ?_)
  refine lv_aload_n hx hb dX6_become_41 rfl (lv_at hl 1 rfl) ?_
  refine g_get hx hb ht hown hE hP (by decide) gE_80 uX6 rfl 4 (by decide) m_233 rfl rfl dX6_become_42 ?_
  refine lv_aload_n hx hb dX6_become_45 rfl (lv_at hl 0 rfl) ?_
  refine g_get hx hb ht hown hE hP (by decide) gE_38 uX6 rfl 4 (by decide) m_233 rfl rfl dX6_become_46 ?_
  obtain ⟨r9, σ8, hcr9, h⟩ := g_bd h
  refine g_callSNv (As := [.ref (G.2.2.1 84), .ref (G.2.2.1 42)]) (n := 2) (host := "PoorDesk") hx hb hml hown ht (c_X9_copyRow l G 84 42 60 (by decide) rfl (by decide) rfl (by decide) _ hcr9) (by decide +kernel) m_748 m_31 m_749 (by decide +kernel) hE hP hS (fun _ h => h) (fun _ _ h => h) rfl hl.1 rfl (Nat.le_of_ble_eq_true rfl) dX6_become_49 ⟨by decide, by decide⟩ ⟨Nat.zero_le _, Nat.zero_le _⟩ (fun H locs hP hS => ?_)
  exact g_vret (v := 0) (r := r) hx hb hr hlk hE hP hS h dX6_become_52

def M_X0_become_b (σ : gSt) : gO :=
  gBd (M_X4_become_b σ) (fun r2 σ1 => gBd (M_X5_become_b σ1) (fun r4 σ3 => gBd (M_X1_become_b σ3) (fun r6 σ5 => gBd (M_X2_become_b σ5) (fun r8 σ7 => gBd (M_X3_become_b σ7) (fun r10 σ9 => gBd (M_X6_become_b σ9) (fun r12 σ11 => gNm (gUp σ11 1 6 (σ11 43 6)) (fun σ13 => some (0, σ13))))))))
set_option maxHeartbeats 4000000 in
set_option maxRecDepth 100000 in
theorem c_X0_become_b (l : Launch) (G : gPar) (σ : gSt) {r : Int32} {σ' : gSt} (h : M_X0_become_b σ = some (r, σ')) : gV l G yX0_become cX0_become 2 3 61 [.ref (G.2.2.1 1), .ref (G.2.2.1 43)] σ σ' := by
  refine gV_of (by decide) (Nat.le_of_ble_eq_true rfl) ?_
  intro p e s m below meth c hx hb hr ht hown hlk hml hE hP ls hl
  have hS : va_S (gA G) s.heap s.heap [] := va_S.rf
  have hl : lv_has ls 2 [(0, .ref (G.2.2.1 1)), (1, .ref (G.2.2.1 43))] := hl
  unfold M_X0_become_b at h
  refine lv_aload_n hx hb dX0_become_0 rfl (lv_at hl 0 rfl) ?_
  refine g_get hx hb ht hown hE hP (by decide) gE_1 uX0 rfl 0 (by decide) m_246 rfl rfl dX0_become_1 ?_
  refine lv_aload_n hx hb dX0_become_4 rfl (lv_at hl 1 rfl) ?_
  refine g_get hx hb ht hown hE hP (by decide) gE_43 uX0 rfl 0 (by decide) m_246 rfl rfl dX0_become_5 ?_
  obtain ⟨r2, σ1, hcr2, h⟩ := g_bd h
  refine g_callVv (As := [.ref (G.2.2.1 44)]) (n := 1) hx hb hml hown ht (c_X4_become_b l G _ hcr2) m_743 m_744 m_745 m_33 m_746 (by decide +kernel) (by decide) gE_2 rfl hE hP hS (fun _ h => h) (fun _ _ h => h) rfl hl.1 rfl (Nat.le_of_ble_eq_true rfl) dX0_become_8 ⟨by decide, by decide⟩ ⟨Nat.zero_le _, Nat.zero_le _⟩ (fun H locs hP hS => ?_)
  refine lv_aload_n hx hb dX0_become_11 rfl (lv_at hl 0 rfl) ?_
  refine g_get hx hb ht hown hE hP (by decide) gE_1 uX0 rfl 1 (by decide) m_248 rfl rfl dX0_become_12 ?_
  refine lv_aload_n hx hb dX0_become_15 rfl (lv_at hl 1 rfl) ?_
  refine g_get hx hb ht hown hE hP (by decide) gE_43 uX0 rfl 1 (by decide) m_248 rfl rfl dX0_become_16 ?_
  obtain ⟨r4, σ3, hcr4, h⟩ := g_bd h
  refine g_callVv (As := [.ref (G.2.2.1 53)]) (n := 1) hx hb hml hown ht (c_X5_become_b l G _ hcr4) m_751 m_752 m_753 m_34 m_754 (by decide +kernel) (by decide) gE_11 rfl hE hP hS (fun _ h => h) (fun _ _ h => h) rfl hl.1 rfl (Nat.le_of_ble_eq_true rfl) dX0_become_19 ⟨by decide, by decide⟩ ⟨Nat.zero_le _, Nat.zero_le _⟩ (fun H locs hP hS => ?_)
  refine lv_aload_n hx hb dX0_become_22 rfl (lv_at hl 0 rfl) ?_
  refine g_get hx hb ht hown hE hP (by decide) gE_1 uX0 rfl 2 (by decide) m_251 rfl rfl dX0_become_23 ?_
  refine lv_aload_n hx hb dX0_become_26 rfl (lv_at hl 1 rfl) ?_
  refine g_get hx hb ht hown hE hP (by decide) gE_43 uX0 rfl 2 (by decide) m_251 rfl rfl dX0_become_27 ?_
  obtain ⟨r6, σ5, hcr6, h⟩ := g_bd h
  refine g_callVv (As := [.ref (G.2.2.1 59)]) (n := 1) hx hb hml hown ht (c_X1_become_b l G _ hcr6) m_756 m_757 m_758 m_35 m_759 (by decide +kernel) (by decide) gE_17 rfl hE hP hS (fun _ h => h) (fun _ _ h => h) rfl hl.1 rfl (Nat.le_of_ble_eq_true rfl) dX0_become_30 ⟨by decide, by decide⟩ ⟨Nat.zero_le _, Nat.zero_le _⟩ (fun H locs hP hS => ?_)
  refine lv_aload_n hx hb dX0_become_33 rfl (lv_at hl 0 rfl) ?_
  refine g_get hx hb ht hown hE hP (by decide) gE_1 uX0 rfl 3 (by decide) m_254 rfl rfl dX0_become_34 ?_
  refine lv_aload_n hx hb dX0_become_37 rfl (lv_at hl 1 rfl) ?_
  refine g_get hx hb ht hown hE hP (by decide) gE_43 uX0 rfl 3 (by decide) m_254 rfl rfl dX0_become_38 ?_
  obtain ⟨r8, σ7, hcr8, h⟩ := g_bd h
  refine g_callVv (As := [.ref (G.2.2.1 68)]) (n := 1) hx hb hml hown ht (c_X2_become_b l G _ hcr8) m_761 m_762 m_763 m_36 m_764 (by decide +kernel) (by decide) gE_26 rfl hE hP hS (fun _ h => h) (fun _ _ h => h) rfl hl.1 rfl (Nat.le_of_ble_eq_true rfl) dX0_become_41 ⟨by decide, by decide⟩ ⟨Nat.zero_le _, Nat.zero_le _⟩ (fun H locs hP hS => ?_)
  refine lv_aload_n hx hb dX0_become_44 rfl (lv_at hl 0 rfl) ?_
  refine g_get hx hb ht hown hE hP (by decide) gE_1 uX0 rfl 4 (by decide) m_257 rfl rfl dX0_become_45 ?_
  refine lv_aload_n hx hb dX0_become_48 rfl (lv_at hl 1 rfl) ?_
  refine g_get hx hb ht hown hE hP (by decide) gE_43 uX0 rfl 4 (by decide) m_257 rfl rfl dX0_become_49 ?_
  obtain ⟨r10, σ9, hcr10, h⟩ := g_bd h
  refine g_callVv (As := [.ref (G.2.2.1 73)]) (n := 1) hx hb hml hown ht (c_X3_become_b l G _ hcr10) m_766 m_767 m_768 m_37 m_769 (by decide +kernel) (by decide) gE_31 rfl hE hP hS (fun _ h => h) (fun _ _ h => h) rfl hl.1 rfl (Nat.le_of_ble_eq_true rfl) dX0_become_52 ⟨by decide, by decide⟩ ⟨Nat.zero_le _, Nat.zero_le _⟩ (fun H locs hP hS => ?_)
  refine lv_aload_n hx hb dX0_become_55 rfl (lv_at hl 0 rfl) ?_
  refine g_get hx hb ht hown hE hP (by decide) gE_1 uX0 rfl 5 (by decide) m_259 rfl rfl dX0_become_56 ?_
  refine lv_aload_n hx hb dX0_become_59 rfl (lv_at hl 1 rfl) ?_
  refine g_get hx hb ht hown hE hP (by decide) gE_43 uX0 rfl 5 (by decide) m_259 rfl rfl dX0_become_60 ?_
  obtain ⟨r12, σ11, hcr12, h⟩ := g_bd h
  refine g_callVv (As := [.ref (G.2.2.1 80)]) (n := 1) hx hb hml hown ht (c_X6_become_b l G _ hcr12) m_771 m_772 m_773 m_38 m_774 (by decide +kernel) (by decide) gE_38 rfl hE hP hS (fun _ h => h) (fun _ _ h => h) rfl hl.1 rfl (Nat.le_of_ble_eq_true rfl) dX0_become_63 ⟨by decide, by decide⟩ ⟨Nat.zero_le _, Nat.zero_le _⟩ (fun H locs hP hS => ?_)
  refine lv_aload_n hx hb dX0_become_66 rfl (lv_at hl 0 rfl) ?_
  refine lv_aload_n hx hb dX0_become_67 rfl (lv_at hl 1 rfl) ?_
  refine g_get hx hb ht hown hE hP (by decide) gE_43 uX0 rfl 6 (by decide) m_261 rfl rfl dX0_become_68 ?_
  refine g_put hx hb ht hown hE hP hS (by decide) gE_1 uX0 tyX0_ok nmX0 rfl 6 (by decide) m_261 rfl rfl rfl rfl rfl (Nat.le_of_ble_eq_true rfl) rfl dX0_become_71 (fun H locs σ13 eσ13 hP hS => ?_)
  have h := g_nm eσ13 h
  exact g_vret (v := 0) (r := r) hx hb hr hlk hE hP hS h dX0_become_74
