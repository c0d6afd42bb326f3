def wX4 (ca : Nat → ClassId) (h : Nat) (a : Nat → Nat) : va_W := [(h, .inr (4, [.int 0, .ref (a 1), .ref (a 2)])), (a 1, .inl (ca 0, 6, .inl (fun _ => 0))), (a 2, .inl (ca 1, 6, .inr (.inr (.inr (.inr (fun i => ([a 3, a 4, a 5, a 6, a 7, a 8] : List Nat)[i]?)))))), (a 3, .inl (ca 0, 6, .inl (fun _ => 0))), (a 4, .inl (ca 0, 6, .inl (fun _ => 0))), (a 5, .inl (ca 0, 6, .inl (fun _ => 0))), (a 6, .inl (ca 0, 6, .inl (fun _ => 0))), (a 7, .inl (ca 0, 6, .inl (fun _ => 0))), (a 8, .inl (ca 0, 6, .inl (fun _ => 0)))]
def wX5 (ca : Nat → ClassId) (h : Nat) (a : Nat → Nat) : va_W := [(h, .inr (5, [.int 0, .ref (a 1), .ref (a 2), .ref (a 3), .ref (a 4), .ref (a 5)])), (a 1, .inl (ca 0, 10, .inl (fun _ => 0))), (a 2, .inl (ca 0, 10, .inl (fun _ => 0))), (a 3, .inl (ca 0, 10, .inl (fun _ => 0))), (a 4, .inl (ca 0, 10, .inl (fun _ => 0))), (a 5, .inl (ca 0, 10, .inl (fun _ => 0)))]
def wX1 (ca : Nat → ClassId) (h : Nat) (a : Nat → Nat) : va_W := [(h, .inr (1, [.int 0, .ref (a 1), .ref (a 2), .ref (a 3), .ref (a 4), .ref (a 5), .ref (a 6), .ref (a 7), .ref (a 8)])), (a 1, .inl (ca 0, 24, .inl (fun _ => 0))), (a 2, .inl (ca 0, 24, .inl (fun _ => 0))), (a 3, .inl (ca 0, 24, .inl (fun _ => 0))), (a 4, .inl (ca 0, 24, .inl (fun _ => 0))), (a 5, .inl (ca 0, 24, .inl (fun _ => 0))), (a 6, .inl (ca 0, 24, .inl (fun _ => 0))), (a 7, .inl (ca 0, 24, .inl (fun _ => 0))), (a 8, .inl (ca 0, 24, .inl (fun _ => 0)))]
def wX2 (ca : Nat → ClassId) (h : Nat) (a : Nat → Nat) : va_W := [(h, .inr (2, [.int 0, .ref (a 1), .ref (a 2), .ref (a 3), .ref (a 4)])), (a 1, .inl (ca 0, 12, .inl (fun _ => 0))), (a 2, .inl (ca 0, 12, .inl (fun _ => 0))), (a 3, .inl (ca 0, 12, .inl (fun _ => 0))), (a 4, .inl (ca 0, 12, .inl (fun _ => 0)))]
def wX3 (ca : Nat → ClassId) (h : Nat) (a : Nat → Nat) : va_W := [(h, .inr (3, [.int 0, .ref (a 1), .ref (a 2), .ref (a 3), .ref (a 4), .ref (a 5), .ref (a 6)])), (a 1, .inl (ca 0, 20, .inl (fun _ => 0))), (a 2, .inl (ca 0, 20, .inl (fun _ => 0))), (a 3, .inl (ca 0, 20, .inl (fun _ => 0))), (a 4, .inl (ca 0, 20, .inl (fun _ => 0))), (a 5, .inl (ca 0, 20, .inl (fun _ => 0))), (a 6, .inl (ca 0, 20, .inl (fun _ => 0)))]
def wX6 (ca : Nat → ClassId) (h : Nat) (a : Nat → Nat) : va_W := [(h, .inr (6, [.int 3, .ref (a 1), .ref (a 2), .ref (a 3), .ref (a 4)])), (a 1, .inl (ca 0, 10, .inl (fun _ => 0))), (a 2, .inl (ca 0, 10, .inl (fun _ => 0))), (a 3, .inl (ca 0, 10, .inl (fun _ => 0))), (a 4, .inl (ca 0, 60, .inl (fun _ => 0)))]
def wX8 (ca : Nat → ClassId) (h : Nat) (a : Nat → Nat) : va_W := [(h, .inr (8, [.int 0, .int 0, .ref (a 1)])), (a 1, .inl (ca 0, 60, .inl (fun _ => 0)))]
def wX7 (ca : Nat → ClassId) (bk h : Nat) (a : Nat → Nat) : va_W := [(h, .inr (7, [.ref bk, .ref (a 1), .ref (a 2), .ref (a 3), .ref (a 4), .ref (a 5), .int 0, .int 0])), (a 1, .inl (ca 0, 24, .inl (fun _ => 0))), (a 2, .inl (ca 0, 10, .inl (fun _ => 0))), (a 3, .inl (ca 0, 10, .inl (fun _ => 0))), (a 4, .inl (ca 0, 9, .inl (fun _ => 0))), (a 5, .inl (ca 0, 9, .inl (fun _ => 0)))]
def wX10 (ca : Nat → ClassId) (h : Nat) (a : Nat → Nat) : va_W := [(h, .inr (10, [.ref (a 1), .ref (a 2), .int 0, .int 0, .ref (a 3), .ref (a 4), .ref (a 5), .int 0, .ref (a 6), .int 0, .ref (a 7), .ref (a 8), .ref (a 9)])), (a 1, .inl (ca 0, 549, .inl (upd (upd (fun _ => 0) 5 60) 6 3))), (a 2, .inl (ca 0, 549, .inl (fun _ => 0))), (a 3, .inl (ca 0, 4, .inl (fun _ => 0))), (a 4, .inl (ca 0, 4, .inl (fun _ => 0))), (a 5, .inl (ca 0, 240, .inl (fun _ => 0))), (a 6, .inl (ca 0, 10, .inl (fun _ => 0))), (a 7, .inl (ca 0, 8, .inl (fun _ => 0))), (a 8, .inl (ca 0, 256, .inl (fun _ => 0))), (a 9, .inl (ca 0, 60, .inl (fun _ => 0)))]
set_option maxHeartbeats 8000000 in
set_option maxRecDepth 100000 in
theorem i_X4 (l : Launch) (D : va_G) (ca : Nat → ClassId) : iC l D ca yX4_init cX4_init 1 { frames := 1, cells := 8, slots := 48, locals := 12 } 4 [.int 0, .null, .null] [] (wX4 ca) := by
  refine iC_of (by decide) rfl (fun h0 => Nat.le_of_ble_eq_true rfl) ?_
  intro p e s m below meth c h0 A hx hb hr ht hown hlk hml hin hE hA hP hD ls hl
  have hS : va_S A s.heap s.heap [] := va_S.rf
  have hl : lv_has ls 1 [(0, .ref h0)] := hl
  refine lv_aload_n hx hb dX4_init_0 rfl (lv_at hl 0 rfl) ?_
  refine W.objInit hx hb hown (ht _ m_65) (ht _ m_52) (ht _ m_53) rfl (by rw [hml]; exact hl.1) rfl dX4_init_1 (Nat.le_of_ble_eq_true rfl) (Nat.le_of_ble_eq_true rfl) ?_
  refine W.eq (g2 := F0 m 4 ls []) rfl ?_
  refine lv_aload_n hx hb dX4_init_4 rfl (lv_at hl 0 rfl) ?_
  refine lv_bipush (v := 6) hx hb dX4_init_5 (by decide) ?_
  refine i_newa hx hb (ht _ m_80) hE hP hD hS hA 6 (by decide) (by decide) (by decide) 1 6 (Nat.le_of_ble_eq_true rfl) (Nat.le_of_ble_eq_true rfl) ⟨(Nat.le_of_ble_eq_true rfl), (Nat.le_of_ble_eq_true rfl)⟩ dX4_init_7 (fun q7 H hP hD hS => ?_)
  have hP : va_P D vwCl ([(h0, .inr (4, [.int 0, .null, .null])), (q7, .inl (ca 0, 6, .inl (fun _ => 0)))]) H := hP
  have hD : va_D A ([(h0, .inr (4, [.int 0, .null, .null])), (q7, .inl (ca 0, 6, .inl (fun _ => 0)))]) := hD
  refine va_putF (D := D) (ci := 4) (v := .ref q7) (ty := (.array .int)) (C := RX4) (T := TX4) (N := 3) hx hb ht uX4 tyX4 tyX4_ok nmX4 hown hE.1 hP hD hS 0 rfl rfl 1 (by decide) (ht _ m_70) (fun _ h9 => h9) rfl hin rfl (by decide +kernel) rfl rfl (Nat.le_of_ble_eq_true rfl) dX4_init_9 (fun H locs hP hD hS => ?_)
  have hP : va_P D vwCl ([(h0, .inr (4, [.int 0, .ref q7, .null])), (q7, .inl (ca 0, 6, .inl (fun _ => 0)))]) H := hP
  have hD : va_D A ([(h0, .inr (4, [.int 0, .ref q7, .null])), (q7, .inl (ca 0, 6, .inl (fun _ => 0)))]) := hD
  refine lv_aload_n hx hb dX4_init_12 rfl (lv_at hl 0 rfl) ?_
  refine lv_bipush (v := 6) hx hb dX4_init_13 (by decide) ?_
  refine lv_bipush (v := 6) hx hb dX4_init_15 (by decide) ?_
  refine i_mna hx hb hown (ht _ m_66) (ht _ m_80) hE hP hD hS hA 8 48 (Nat.le_of_ble_eq_true rfl) (Nat.le_of_ble_eq_true rfl) ⟨(Nat.le_of_ble_eq_true rfl), (Nat.le_of_ble_eq_true rfl)⟩ dX4_init_17 (fun q17 r H hP hD hS => ?_)
  have hP : va_P D vwCl ([(h0, .inr (4, [.int 0, .ref q7, .null])), (q7, .inl (ca 0, 6, .inl (fun _ => 0))), (q17, .inl (ca 1, 6, .inr (.inr (.inr (.inr (fun i => ([r 0, r 1, r 2, r 3, r 4, r 5] : List Nat)[i]?)))))), (r 0, .inl (ca 0, 6, .inl (fun _ => 0))), (r 1, .inl (ca 0, 6, .inl (fun _ => 0))), (r 2, .inl (ca 0, 6, .inl (fun _ => 0))), (r 3, .inl (ca 0, 6, .inl (fun _ => 0))), (r 4, .inl (ca 0, 6, .inl (fun _ => 0))), (r 5, .inl (ca 0, 6, .inl (fun _ => 0)))]) H := hP
  have hD : va_D A ([(h0, .inr (4, [.int 0, .ref q7, .null])), (q7, .inl (ca 0, 6, .inl (fun _ => 0))), (q17, .inl (ca 1, 6, .inr (.inr (.inr (.inr (fun i => ([r 0, r 1, r 2, r 3, r 4, r 5] : List Nat)[i]?)))))), (r 0, .inl (ca 0, 6, .inl (fun _ => 0))), (r 1, .inl (ca 0, 6, .inl (fun _ => 0))), (r 2, .inl (ca 0, 6, .inl (fun _ => 0))), (r 3, .inl (ca 0, 6, .inl (fun _ => 0))), (r 4, .inl (ca 0, 6, .inl (fun _ => 0))), (r 5, .inl (ca 0, 6, .inl (fun _ => 0)))]) := hD
  refine va_putF (D := D) (ci := 4) (v := .ref q17) (ty := (.array (.array .int))) (C := RX4) (T := TX4) (N := 3) hx hb ht uX4 tyX4 tyX4_ok nmX4 hown hE.1 hP hD hS 0 rfl rfl 2 (by decide) (ht _ m_71) (fun _ h9 => h9) rfl hin rfl (by decide +kernel) rfl rfl (Nat.le_of_ble_eq_true rfl) dX4_init_21 (fun H locs hP hD hS => ?_)
  have hP : va_P D vwCl ([(h0, .inr (4, [.int 0, .ref q7, .ref q17])), (q7, .inl (ca 0, 6, .inl (fun _ => 0))), (q17, .inl (ca 1, 6, .inr (.inr (.inr (.inr (fun i => ([r 0, r 1, r 2, r 3, r 4, r 5] : List Nat)[i]?)))))), (r 0, .inl (ca 0, 6, .inl (fun _ => 0))), (r 1, .inl (ca 0, 6, .inl (fun _ => 0))), (r 2, .inl (ca 0, 6, .inl (fun _ => 0))), (r 3, .inl (ca 0, 6, .inl (fun _ => 0))), (r 4, .inl (ca 0, 6, .inl (fun _ => 0))), (r 5, .inl (ca 0, 6, .inl (fun _ => 0)))]) H := hP
  have hD : va_D A ([(h0, .inr (4, [.int 0, .ref q7, .ref q17])), (q7, .inl (ca 0, 6, .inl (fun _ => 0))), (q17, .inl (ca 1, 6, .inr (.inr (.inr (.inr (fun i => ([r 0, r 1, r 2, r 3, r 4, r 5] : List Nat)[i]?)))))), (r 0, .inl (ca 0, 6, .inl (fun _ => 0))), (r 1, .inl (ca 0, 6, .inl (fun _ => 0))), (r 2, .inl (ca 0, 6, .inl (fun _ => 0))), (r 3, .inl (ca 0, 6, .inl (fun _ => 0))), (r 4, .inl (ca 0, 6, .inl (fun _ => 0))), (r 5, .inl (ca 0, 6, .inl (fun _ => 0)))]) := hD
  exact i_ret (w := wX4 ca) (h0 := h0) (fun k => ([h0, q7, q17, r 0, r 1, r 2, r 3, r 4, r 5] : List Nat).getD k 0) hx hb hr hlk (Nat.le_of_ble_eq_true rfl) (Nat.le_of_ble_eq_true rfl) ⟨(Nat.le_of_ble_eq_true rfl), (Nat.le_of_ble_eq_true rfl)⟩ hP hD hS dX4_init_24
set_option maxHeartbeats 8000000 in
set_option maxRecDepth 100000 in
theorem i_X5 (l : Launch) (D : va_G) (ca : Nat → ClassId) : iC l D ca yX5_init cX5_init 1 { frames := 1, cells := 5, slots := 50, locals := 12 } 5 [.int 0, .null, .null, .null, .null, .null] [] (wX5 ca) := by
  refine iC_of (by decide) rfl (fun h0 => Nat.le_of_ble_eq_true rfl) ?_
  intro p e s m below meth c h0 A hx hb hr ht hown hlk hml hin hE hA hP hD ls hl
  have hS : va_S A s.heap s.heap [] := va_S.rf
  have hl : lv_has ls 1 [(0, .ref h0)] := hl
  refine lv_aload_n hx hb dX5_init_0 rfl (lv_at hl 0 rfl) ?_
  refine W.objInit hx hb hown (ht _ m_86) (ht _ m_52) (ht _ m_53) rfl (by rw [hml]; exact hl.1) rfl dX5_init_1 (Nat.le_of_ble_eq_true rfl) (Nat.le_of_ble_eq_true rfl) ?_
  refine W.eq (g2 := F0 m 4 ls []) rfl ?_
  refine lv_aload_n hx hb dX5_init_4 rfl (lv_at hl 0 rfl) ?_
  refine lv_bipush (v := 10) hx hb dX5_init_5 (by decide) ?_
  refine i_newa hx hb (ht _ m_80) hE hP hD hS hA 10 (by decide) (by decide) (by decide) 1 10 (Nat.le_of_ble_eq_true rfl) (Nat.le_of_ble_eq_true rfl) ⟨(Nat.le_of_ble_eq_true rfl), (Nat.le_of_ble_eq_true rfl)⟩ dX5_init_7 (fun q7 H hP hD hS => ?_)
  have hP : va_P D vwCl ([(h0, .inr (5, [.int 0, .null, .null, .null, .null, .null])), (q7, .inl (ca 0, 10, .inl (fun _ => 0)))]) H := hP
  have hD : va_D A ([(h0, .inr (5, [.int 0, .null, .null, .null, .null, .null])), (q7, .inl (ca 0, 10, .inl (fun _ => 0)))]) := hD
  refine va_putF (D := D) (ci := 5) (v := .ref q7) (ty := (.array .int)) (C := RX5) (T := TX5) (N := 6) hx hb ht uX5 tyX5 tyX5_ok nmX5 hown hE.1 hP hD hS 0 rfl rfl 1 (by decide) (ht _ m_90) (fun _ h9 => h9) rfl hin rfl (by decide +kernel) rfl rfl (Nat.le_of_ble_eq_true rfl) dX5_init_9 (fun H locs hP hD hS => ?_)
  have hP : va_P D vwCl ([(h0, .inr (5, [.int 0, .ref q7, .null, .null, .null, .null])), (q7, .inl (ca 0, 10, .inl (fun _ => 0)))]) H := hP
  have hD : va_D A ([(h0, .inr (5, [.int 0, .ref q7, .null, .null, .null, .null])), (q7, .inl (ca 0, 10, .inl (fun _ => 0)))]) := hD
  refine lv_aload_n hx hb dX5_init_12 rfl (lv_at hl 0 rfl) ?_
  refine lv_bipush (v := 10) hx hb dX5_init_13 (by decide) ?_
  refine i_newa hx hb (ht _ m_80) hE hP hD hS hA 10 (by decide) (by decide) (by decide) 2 20 (Nat.le_of_ble_eq_true rfl) (Nat.le_of_ble_eq_true rfl) ⟨(Nat.le_of_ble_eq_true rfl), (Nat.le_of_ble_eq_true rfl)⟩ dX5_init_15 (fun q15 H hP hD hS => ?_)
  have hP : va_P D vwCl ([(h0, .inr (5, [.int 0, .ref q7, .null, .null, .null, .null])), (q7, .inl (ca 0, 10, .inl (fun _ => 0))), (q15, .inl (ca 0, 10, .inl (fun _ => 0)))]) H := hP
  have hD : va_D A ([(h0, .inr (5, [.int 0, .ref q7, .null, .null, .null, .null])), (q7, .inl (ca 0, 10, .inl (fun _ => 0))), (q15, .inl (ca 0, 10, .inl (fun _ => 0)))]) := hD
  refine va_putF (D := D) (ci := 5) (v := .ref q15) (ty := (.array .int)) (C := RX5) (T := TX5) (N := 6) hx hb ht uX5 tyX5 tyX5_ok nmX5 hown hE.1 hP hD hS 0 rfl rfl 2 (by decide) (ht _ m_93) (fun _ h9 => h9) rfl hin rfl (by decide +kernel) rfl rfl (Nat.le_of_ble_eq_true rfl) dX5_init_17 (fun H locs hP hD hS => ?_)
  have hP : va_P D vwCl ([(h0, .inr (5, [.int 0, .ref q7, .ref q15, .null, .null, .null])), (q7, .inl (ca 0, 10, .inl (fun _ => 0))), (q15, .inl (ca 0, 10, .inl (fun _ => 0)))]) H := hP
  have hD : va_D A ([(h0, .inr (5, [.int 0, .ref q7, .ref q15, .null, .null, .null])), (q7, .inl (ca 0, 10, .inl (fun _ => 0))), (q15, .inl (ca 0, 10, .inl (fun _ => 0)))]) := hD
  refine lv_aload_n hx hb dX5_init_20 rfl (lv_at hl 0 rfl) ?_
  refine lv_bipush (v := 10) hx hb dX5_init_21 (by decide) ?_
  refine i_newa hx hb (ht _ m_80) hE hP hD hS hA 10 (by decide) (by decide) (by decide) 3 30 (Nat.le_of_ble_eq_true rfl) (Nat.le_of_ble_eq_true rfl) ⟨(Nat.le_of_ble_eq_true rfl), (Nat.le_of_ble_eq_true rfl)⟩ dX5_init_23 (fun q23 H hP hD hS => ?_)
  have hP : va_P D vwCl ([(h0, .inr (5, [.int 0, .ref q7, .ref q15, .null, .null, .null])), (q7, .inl (ca 0, 10, .inl (fun _ => 0))), (q15, .inl (ca 0, 10, .inl (fun _ => 0))), (q23, .inl (ca 0, 10, .inl (fun _ => 0)))]) H := hP
  have hD : va_D A ([(h0, .inr (5, [.int 0, .ref q7, .ref q15, .null, .null, .null])), (q7, .inl (ca 0, 10, .inl (fun _ => 0))), (q15, .inl (ca 0, 10, .inl (fun _ => 0))), (q23, .inl (ca 0, 10, .inl (fun _ => 0)))]) := hD
  refine va_putF (D := D) (ci := 5) (v := .ref q23) (ty := (.array .int)) (C := RX5) (T := TX5) (N := 6) hx hb ht uX5 tyX5 tyX5_ok nmX5 hown hE.1 hP hD hS 0 rfl rfl 3 (by decide) (ht _ m_95) (fun _ h9 => h9) rfl hin rfl (by decide +kernel) rfl rfl (Nat.le_of_ble_eq_true rfl) dX5_init_25 (fun H locs hP hD hS => ?_)
  have hP : va_P D vwCl ([(h0, .inr (5, [.int 0, .ref q7, .ref q15, .ref q23, .null, .null])), (q7, .inl (ca 0, 10, .inl (fun _ => 0))), (q15, .inl (ca 0, 10, .inl (fun _ => 0))), (q23, .inl (ca 0, 10, .inl (fun _ => 0)))]) H := hP
  have hD : va_D A ([(h0, .inr (5, [.int 0, .ref q7, .ref q15, .ref q23, .null, .null])), (q7, .inl (ca 0, 10, .inl (fun _ => 0))), (q15, .inl (ca 0, 10, .inl (fun _ => 0))), (q23, .inl (ca 0, 10, .inl (fun _ => 0)))]) := hD
  refine lv_aload_n hx hb dX5_init_28 rfl (lv_at hl 0 rfl) ?_
  refine lv_bipush (v := 10) hx hb dX5_init_29 (by decide) ?_
  refine i_newa hx hb (ht _ m_80) hE hP hD hS hA 10 (by decide) (by decide) (by decide) 4 40 (Nat.le_of_ble_eq_true rfl) (Nat.le_of_ble_eq_true rfl) ⟨(Nat.le_of_ble_eq_true rfl), (Nat.le_of_ble_eq_true rfl)⟩ dX5_init_31 (fun q31 H hP hD hS => ?_)
  have hP : va_P D vwCl ([(h0, .inr (5, [.int 0, .ref q7, .ref q15, .ref q23, .null, .null])), (q7, .inl (ca 0, 10, .inl (fun _ => 0))), (q15, .inl (ca 0, 10, .inl (fun _ => 0))), (q23, .inl (ca 0, 10, .inl (fun _ => 0))), (q31, .inl (ca 0, 10, .inl (fun _ => 0)))]) H := hP
  have hD : va_D A ([(h0, .inr (5, [.int 0, .ref q7, .ref q15, .ref q23, .null, .null])), (q7, .inl (ca 0, 10, .inl (fun _ => 0))), (q15, .inl (ca 0, 10, .inl (fun _ => 0))), (q23, .inl (ca 0, 10, .inl (fun _ => 0))), (q31, .inl (ca 0, 10, .inl (fun _ => 0)))]) := hD
  refine va_putF (D := D) (ci := 5) (v := .ref q31) (ty := (.array .int)) (C := RX5) (T := TX5) (N := 6) hx hb ht uX5 tyX5 tyX5_ok nmX5 hown hE.1 hP hD hS 0 rfl rfl 4 (by decide) (ht _ m_97) (fun _ h9 => h9) rfl hin rfl (by decide +kernel) rfl rfl (Nat.le_of_ble_eq_true rfl) dX5_init_33 (fun H locs hP hD hS => ?_)
  have hP : va_P D vwCl ([(h0, .inr (5, [.int 0, .ref q7, .ref q15, .ref q23, .ref q31, .null])), (q7, .inl (ca 0, 10, .inl (fun _ => 0))), (q15, .inl (ca 0, 10, .inl (fun _ => 0))), (q23, .inl (ca 0, 10, .inl (fun _ => 0))), (q31, .inl (ca 0, 10, .inl (fun _ => 0)))]) H := hP
  have hD : va_D A ([(h0, .inr (5, [.int 0, .ref q7, .ref q15, .ref q23, .ref q31, .null])), (q7, .inl (ca 0, 10, .inl (fun _ => 0))), (q15, .inl (ca 0, 10, .inl (fun _ => 0))), (q23, .inl (ca 0, 10, .inl (fun _ => 0))), (q31, .inl (ca 0, 10, .inl (fun _ => 0)))]) := hD
  refine lv_aload_n hx hb dX5_init_36 rfl (lv_at hl 0 rfl) ?_
  refine lv_bipush (v := 10) hx hb dX5_init_37 (by decide) ?_
  refine i_newa hx hb (ht _ m_80) hE hP hD hS hA 10 (by decide) (by decide) (by decide) 5 50 (Nat.le_of_ble_eq_true rfl) (Nat.le_of_ble_eq_true rfl) ⟨(Nat.le_of_ble_eq_true rfl), (Nat.le_of_ble_eq_true rfl)⟩ dX5_init_39 (fun q39 H hP hD hS => ?_)
  have hP : va_P D vwCl ([(h0, .inr (5, [.int 0, .ref q7, .ref q15, .ref q23, .ref q31, .null])), (q7, .inl (ca 0, 10, .inl (fun _ => 0))), (q15, .inl (ca 0, 10, .inl (fun _ => 0))), (q23, .inl (ca 0, 10, .inl (fun _ => 0))), (q31, .inl (ca 0, 10, .inl (fun _ => 0))), (q39, .inl (ca 0, 10, .inl (fun _ => 0)))]) H := hP
  have hD : va_D A ([(h0, .inr (5, [.int 0, .ref q7, .ref q15, .ref q23, .ref q31, .null])), (q7, .inl (ca 0, 10, .inl (fun _ => 0))), (q15, .inl (ca 0, 10, .inl (fun _ => 0))), (q23, .inl (ca 0, 10, .inl (fun _ => 0))), (q31, .inl (ca 0, 10, .inl (fun _ => 0))), (q39, .inl (ca 0, 10, .inl (fun _ => 0)))]) := hD
  refine va_putF (D := D) (ci := 5) (v := .ref q39) (ty := (.array .int)) (C := RX5) (T := TX5) (N := 6) hx hb ht uX5 tyX5 tyX5_ok nmX5 hown hE.1 hP hD hS 0 rfl rfl 5 (by decide) (ht _ m_100) (fun _ h9 => h9) rfl hin rfl (by decide +kernel) rfl rfl (Nat.le_of_ble_eq_true rfl) dX5_init_41 (fun H locs hP hD hS => ?_)
  have hP : va_P D vwCl ([(h0, .inr (5, [.int 0, .ref q7, .ref q15, .ref q23, .ref q31, .ref q39])), (q7, .inl (ca 0, 10, .inl (fun _ => 0))), (q15, .inl (ca 0, 10, .inl (fun _ => 0))), (q23, .inl (ca 0, 10, .inl (fun _ => 0))), (q31, .inl (ca 0, 10, .inl (fun _ => 0))), (q39, .inl (ca 0, 10, .inl (fun _ => 0)))]) H := hP
  have hD : va_D A ([(h0, .inr (5, [.int 0, .ref q7, .ref q15, .ref q23, .ref q31, .ref q39])), (q7, .inl (ca 0, 10, .inl (fun _ => 0))), (q15, .inl (ca 0, 10, .inl (fun _ => 0))), (q23, .inl (ca 0, 10, .inl (fun _ => 0))), (q31, .inl (ca 0, 10, .inl (fun _ => 0))), (q39, .inl (ca 0, 10, .inl (fun _ => 0)))]) := hD
  exact i_ret (w := wX5 ca) (h0 := h0) (fun k => ([h0, q7, q15, q23, q31, q39] : List Nat).getD k 0) hx hb hr hlk (Nat.le_of_ble_eq_true rfl) (Nat.le_of_ble_eq_true rfl) ⟨(Nat.le_of_ble_eq_true rfl), (Nat.le_of_ble_eq_true rfl)⟩ hP hD hS dX5_init_44
set_option maxHeartbeats 8000000 in
set_option maxRecDepth 100000 in
theorem i_X1 (l : Launch) (D : va_G) (ca : Nat → ClassId) : iC l D ca yX1_init cX1_init 1 { frames := 1, cells := 8, slots := 192, locals := 12 } 1 [.int 0, .null, .null, .null, .null, .null, .null, .null, .null] [] (wX1 ca) := by
  refine iC_of (by decide) rfl (fun h0 => Nat.le_of_ble_eq_true rfl) ?_
  intro p e s m below meth c h0 A hx hb hr ht hown hlk hml hin hE hA hP hD ls hl
  have hS : va_S A s.heap s.heap [] := va_S.rf
  have hl : lv_has ls 1 [(0, .ref h0)] := hl
  refine lv_aload_n hx hb dX1_init_0 rfl (lv_at hl 0 rfl) ?_
  refine W.objInit hx hb hown (ht _ m_120) (ht _ m_52) (ht _ m_53) rfl (by rw [hml]; exact hl.1) rfl dX1_init_1 (Nat.le_of_ble_eq_true rfl) (Nat.le_of_ble_eq_true rfl) ?_
  refine W.eq (g2 := F0 m 4 ls []) rfl ?_
  refine lv_aload_n hx hb dX1_init_4 rfl (lv_at hl 0 rfl) ?_
  refine lv_bipush (v := 24) hx hb dX1_init_5 (by decide) ?_
  refine i_newa hx hb (ht _ m_80) hE hP hD hS hA 24 (by decide) (by decide) (by decide) 1 24 (Nat.le_of_ble_eq_true rfl) (Nat.le_of_ble_eq_true rfl) ⟨(Nat.le_of_ble_eq_true rfl), (Nat.le_of_ble_eq_true rfl)⟩ dX1_init_7 (fun q7 H hP hD hS => ?_)
  have hP : va_P D vwCl ([(h0, .inr (1, [.int 0, .null, .null, .null, .null, .null, .null, .null, .null])), (q7, .inl (ca 0, 24, .inl (fun _ => 0)))]) H := hP
  have hD : va_D A ([(h0, .inr (1, [.int 0, .null, .null, .null, .null, .null, .null, .null, .null])), (q7, .inl (ca 0, 24, .inl (fun _ => 0)))]) := hD
  refine va_putF (D := D) (ci := 1) (v := .ref q7) (ty := (.array .int)) (C := RX1) (T := TX1) (N := 9) hx hb ht uX1 tyX1 tyX1_ok nmX1 hown hE.1 hP hD hS 0 rfl rfl 1 (by decide) (ht _ m_124) (fun _ h9 => h9) rfl hin rfl (by decide +kernel) rfl rfl (Nat.le_of_ble_eq_true rfl) dX1_init_9 (fun H locs hP hD hS => ?_)
  have hP : va_P D vwCl ([(h0, .inr (1, [.int 0, .ref q7, .null, .null, .null, .null, .null, .null, .null])), (q7, .inl (ca 0, 24, .inl (fun _ => 0)))]) H := hP
  have hD : va_D A ([(h0, .inr (1, [.int 0, .ref q7, .null, .null, .null, .null, .null, .null, .null])), (q7, .inl (ca 0, 24, .inl (fun _ => 0)))]) := hD
  refine lv_aload_n hx hb dX1_init_12 rfl (lv_at hl 0 rfl) ?_
  refine lv_bipush (v := 24) hx hb dX1_init_13 (by decide) ?_
  refine i_newa hx hb (ht _ m_80) hE hP hD hS hA 24 (by decide) (by decide) (by decide) 2 48 (Nat.le_of_ble_eq_true rfl) (Nat.le_of_ble_eq_true rfl) ⟨(Nat.le_of_ble_eq_true rfl), (Nat.le_of_ble_eq_true rfl)⟩ dX1_init_15 (fun q15 H hP hD hS => ?_)
  have hP : va_P D vwCl ([(h0, .inr (1, [.int 0, .ref q7, .null, .null, .null, .null, .null, .null, .null])), (q7, .inl (ca 0, 24, .inl (fun _ => 0))), (q15, .inl (ca 0, 24, .inl (fun _ => 0)))]) H := hP
  have hD : va_D A ([(h0, .inr (1, [.int 0, .ref q7, .null, .null, .null, .null, .null, .null, .null])), (q7, .inl (ca 0, 24, .inl (fun _ => 0))), (q15, .inl (ca 0, 24, .inl (fun _ => 0)))]) := hD
  refine va_putF (D := D) (ci := 1) (v := .ref q15) (ty := (.array .int)) (C := RX1) (T := TX1) (N := 9) hx hb ht uX1 tyX1 tyX1_ok nmX1 hown hE.1 hP hD hS 0 rfl rfl 2 (by decide) (ht _ m_126) (fun _ h9 => h9) rfl hin rfl (by decide +kernel) rfl rfl (Nat.le_of_ble_eq_true rfl) dX1_init_17 (fun H locs hP hD hS => ?_)
  have hP : va_P D vwCl ([(h0, .inr (1, [.int 0, .ref q7, .ref q15, .null, .null, .null, .null, .null, .null])), (q7, .inl (ca 0, 24, .inl (fun _ => 0))), (q15, .inl (ca 0, 24, .inl (fun _ => 0)))]) H := hP
  have hD : va_D A ([(h0, .inr (1, [.int 0, .ref q7, .ref q15, .null, .null, .null, .null, .null, .null])), (q7, .inl (ca 0, 24, .inl (fun _ => 0))), (q15, .inl (ca 0, 24, .inl (fun _ => 0)))]) := hD
  refine lv_aload_n hx hb dX1_init_20 rfl (lv_at hl 0 rfl) ?_
  refine lv_bipush (v := 24) hx hb dX1_init_21 (by decide) ?_
  refine i_newa hx hb (ht _ m_80) hE hP hD hS hA 24 (by decide) (by decide) (by decide) 3 72 (Nat.le_of_ble_eq_true rfl) (Nat.le_of_ble_eq_true rfl) ⟨(Nat.le_of_ble_eq_true rfl), (Nat.le_of_ble_eq_true rfl)⟩ dX1_init_23 (fun q23 H hP hD hS => ?_)
  have hP : va_P D vwCl ([(h0, .inr (1, [.int 0, .ref q7, .ref q15, .null, .null, .null, .null, .null, .null])), (q7, .inl (ca 0, 24, .inl (fun _ => 0))), (q15, .inl (ca 0, 24, .inl (fun _ => 0))), (q23, .inl (ca 0, 24, .inl (fun _ => 0)))]) H := hP
  have hD : va_D A ([(h0, .inr (1, [.int 0, .ref q7, .ref q15, .null, .null, .null, .null, .null, .null])), (q7, .inl (ca 0, 24, .inl (fun _ => 0))), (q15, .inl (ca 0, 24, .inl (fun _ => 0))), (q23, .inl (ca 0, 24, .inl (fun _ => 0)))]) := hD
  refine va_putF (D := D) (ci := 1) (v := .ref q23) (ty := (.array .int)) (C := RX1) (T := TX1) (N := 9) hx hb ht uX1 tyX1 tyX1_ok nmX1 hown hE.1 hP hD hS 0 rfl rfl 3 (by decide) (ht _ m_128) (fun _ h9 => h9) rfl hin rfl (by decide +kernel) rfl rfl (Nat.le_of_ble_eq_true rfl) dX1_init_25 (fun H locs hP hD hS => ?_)
  have hP : va_P D vwCl ([(h0, .inr (1, [.int 0, .ref q7, .ref q15, .ref q23, .null, .null, .null, .null, .null])), (q7, .inl (ca 0, 24, .inl (fun _ => 0))), (q15, .inl (ca 0, 24, .inl (fun _ => 0))), (q23, .inl (ca 0, 24, .inl (fun _ => 0)))]) H := hP
  have hD : va_D A ([(h0, .inr (1, [.int 0, .ref q7, .ref q15, .ref q23, .null, .null, .null, .null, .null])), (q7, .inl (ca 0, 24, .inl (fun _ => 0))), (q15, .inl (ca 0, 24, .inl (fun _ => 0))), (q23, .inl (ca 0, 24, .inl (fun _ => 0)))]) := hD
  refine lv_aload_n hx hb dX1_init_28 rfl (lv_at hl 0 rfl) ?_
  refine lv_bipush (v := 24) hx hb dX1_init_29 (by decide) ?_
  refine i_newa hx hb (ht _ m_80) hE hP hD hS hA 24 (by decide) (by decide) (by decide) 4 96 (Nat.le_of_ble_eq_true rfl) (Nat.le_of_ble_eq_true rfl) ⟨(Nat.le_of_ble_eq_true rfl), (Nat.le_of_ble_eq_true rfl)⟩ dX1_init_31 (fun q31 H hP hD hS => ?_)
  have hP : va_P D vwCl ([(h0, .inr (1, [.int 0, .ref q7, .ref q15, .ref q23, .null, .null, .null, .null, .null])), (q7, .inl (ca 0, 24, .inl (fun _ => 0))), (q15, .inl (ca 0, 24, .inl (fun _ => 0))), (q23, .inl (ca 0, 24, .inl (fun _ => 0))), (q31, .inl (ca 0, 24, .inl (fun _ => 0)))]) H := hP
  have hD : va_D A ([(h0, .inr (1, [.int 0, .ref q7, .ref q15, .ref q23, .null, .null, .null, .null, .null])), (q7, .inl (ca 0, 24, .inl (fun _ => 0))), (q15, .inl (ca 0, 24, .inl (fun _ => 0))), (q23, .inl (ca 0, 24, .inl (fun _ => 0))), (q31, .inl (ca 0, 24, .inl (fun _ => 0)))]) := hD
  refine va_putF (D := D) (ci := 1) (v := .ref q31) (ty := (.array .int)) (C := RX1) (T := TX1) (N := 9) hx hb ht uX1 tyX1 tyX1_ok nmX1 hown hE.1 hP hD hS 0 rfl rfl 4 (by decide) (ht _ m_130) (fun _ h9 => h9) rfl hin rfl (by decide +kernel) rfl rfl (Nat.le_of_ble_eq_true rfl) dX1_init_33 (fun H locs hP hD hS => ?_)
  have hP : va_P D vwCl ([(h0, .inr (1, [.int 0, .ref q7, .ref q15, .ref q23, .ref q31, .null, .null, .null, .null])), (q7, .inl (ca 0, 24, .inl (fun _ => 0))), (q15, .inl (ca 0, 24, .inl (fun _ => 0))), (q23, .inl (ca 0, 24, .inl (fun _ => 0))), (q31, .inl (ca 0, 24, .inl (fun _ => 0)))]) H := hP
  have hD : va_D A ([(h0, .inr (1, [.int 0, .ref q7, .ref q15, .ref q23, .ref q31, .null, .null, .null, .null])), (q7, .inl (ca 0, 24, .inl (fun _ => 0))), (q15, .inl (ca 0, 24, .inl (fun _ => 0))), (q23, .inl (ca 0, 24, .inl (fun _ => 0))), (q31, .inl (ca 0, 24, .inl (fun _ => 0)))]) := hD
  refine lv_aload_n hx hb dX1_init_36 rfl (lv_at hl 0 rfl) ?_
  refine lv_bipush (v := 24) hx hb dX1_init_37 (by decide) ?_
  refine i_newa hx hb (ht _ m_80) hE hP hD hS hA 24 (by decide) (by decide) (by decide) 5 120 (Nat.le_of_ble_eq_true rfl) (Nat.le_of_ble_eq_true rfl) ⟨(Nat.le_of_ble_eq_true rfl), (Nat.le_of_ble_eq_true rfl)⟩ dX1_init_39 (fun q39 H hP hD hS => ?_)
  have hP : va_P D vwCl ([(h0, .inr (1, [.int 0, .ref q7, .ref q15, .ref q23, .ref q31, .null, .null, .null, .null])), (q7, .inl (ca 0, 24, .inl (fun _ => 0))), (q15, .inl (ca 0, 24, .inl (fun _ => 0))), (q23, .inl (ca 0, 24, .inl (fun _ => 0))), (q31, .inl (ca 0, 24, .inl (fun _ => 0))), (q39, .inl (ca 0, 24, .inl (fun _ => 0)))]) H := hP
  have hD : va_D A ([(h0, .inr (1, [.int 0, .ref q7, .ref q15, .ref q23, .ref q31, .null, .null, .null, .null])), (q7, .inl (ca 0, 24, .inl (fun _ => 0))), (q15, .inl (ca 0, 24, .inl (fun _ => 0))), (q23, .inl (ca 0, 24, .inl (fun _ => 0))), (q31, .inl (ca 0, 24, .inl (fun _ => 0))), (q39, .inl (ca 0, 24, .inl (fun _ => 0)))]) := hD
  refine va_putF (D := D) (ci := 1) (v := .ref q39) (ty := (.array .int)) (C := RX1) (T := TX1) (N := 9) hx hb ht uX1 tyX1 tyX1_ok nmX1 hown hE.1 hP hD hS 0 rfl rfl 5 (by decide) (ht _ m_132) (fun _ h9 => h9) rfl hin rfl (by decide +kernel) rfl rfl (Nat.le_of_ble_eq_true rfl) dX1_init_41 (fun H locs hP hD hS => ?_)
  have hP : va_P D vwCl ([(h0, .inr (1, [.int 0, .ref q7, .ref q15, .ref q23, .ref q31, .ref q39, .null, .null, .null])), (q7, .inl (ca 0, 24, .inl (fun _ => 0))), (q15, .inl (ca 0, 24, .inl (fun _ => 0))), (q23, .inl (ca 0, 24, .inl (fun _ => 0))), (q31, .inl (ca 0, 24, .inl (fun _ => 0))), (q39, .inl (ca 0, 24, .inl (fun _ => 0)))]) H := hP
  have hD : va_D A ([(h0, .inr (1, [.int 0, .ref q7, .ref q15, .ref q23, .ref q31, .ref q39, .null, .null, .null])), (q7, .inl (ca 0, 24, .inl (fun _ => 0))), (q15, .inl (ca 0, 24, .inl (fun _ => 0))), (q23, .inl (ca 0, 24, .inl (fun _ => 0))), (q31, .inl (ca 0, 24, .inl (fun _ => 0))), (q39, .inl (ca 0, 24, .inl (fun _ => 0)))]) := hD
  refine lv_aload_n hx hb dX1_init_44 rfl (lv_at hl 0 rfl) ?_
  refine lv_bipush (v := 24) hx hb dX1_init_45 (by decide) ?_
  refine i_newa hx hb (ht _ m_80) hE hP hD hS hA 24 (by decide) (by decide) (by decide) 6 144 (Nat.le_of_ble_eq_true rfl) (Nat.le_of_ble_eq_true rfl) ⟨(Nat.le_of_ble_eq_true rfl), (Nat.le_of_ble_eq_true rfl)⟩ dX1_init_47 (fun q47 H hP hD hS => ?_)
  have hP : va_P D vwCl ([(h0, .inr (1, [.int 0, .ref q7, .ref q15, .ref q23, .ref q31, .ref q39, .null, .null, .null])), (q7, .inl (ca 0, 24, .inl (fun _ => 0))), (q15, .inl (ca 0, 24, .inl (fun _ => 0))), (q23, .inl (ca 0, 24, .inl (fun _ => 0))), (q31, .inl (ca 0, 24, .inl (fun _ => 0))), (q39, .inl (ca 0, 24, .inl (fun _ => 0))), (q47, .inl (ca 0, 24, .inl (fun _ => 0)))]) H := hP
  have hD : va_D A ([(h0, .inr (1, [.int 0, .ref q7, .ref q15, .ref q23, .ref q31, .ref q39, .null, .null, .null])), (q7, .inl (ca 0, 24, .inl (fun _ => 0))), (q15, .inl (ca 0, 24, .inl (fun _ => 0))), (q23, .inl (ca 0, 24, .inl (fun _ => 0))), (q31, .inl (ca 0, 24, .inl (fun _ => 0))), (q39, .inl (ca 0, 24, .inl (fun _ => 0))), (q47, .inl (ca 0, 24, .inl (fun _ => 0)))]) := hD
  refine va_putF (D := D) (ci := 1) (v := .ref q47) (ty := (.array .int)) (C := RX1) (T := TX1) (N := 9) hx hb ht uX1 tyX1 tyX1_ok nmX1 hown hE.1 hP hD hS 0 rfl rfl 6 (by decide) (ht _ m_134) (fun _ h9 => h9) rfl hin rfl (by decide +kernel) rfl rfl (Nat.le_of_ble_eq_true rfl) dX1_init_49 (fun H locs hP hD hS => ?_)
  have hP : va_P D vwCl ([(h0, .inr (1, [.int 0, .ref q7, .ref q15, .ref q23, .ref q31, .ref q39, .ref q47, .null, .null])), (q7, .inl (ca 0, 24, .inl (fun _ => 0))), (q15, .inl (ca 0, 24, .inl (fun _ => 0))), (q23, .inl (ca 0, 24, .inl (fun _ => 0))), (q31, .inl (ca 0, 24, .inl (fun _ => 0))), (q39, .inl (ca 0, 24, .inl (fun _ => 0))), (q47, .inl (ca 0, 24, .inl (fun _ => 0)))]) H := hP
  have hD : va_D A ([(h0, .inr (1, [.int 0, .ref q7, .ref q15, .ref q23, .ref q31, .ref q39, .ref q47, .null, .null])), (q7, .inl (ca 0, 24, .inl (fun _ => 0))), (q15, .inl (ca 0, 24, .inl (fun _ => 0))), (q23, .inl (ca 0, 24, .inl (fun _ => 0))), (q31, .inl (ca 0, 24, .inl (fun _ => 0))), (q39, .inl (ca 0, 24, .inl (fun _ => 0))), (q47, .inl (ca 0, 24, .inl (fun _ => 0)))]) := hD
  refine lv_aload_n hx hb dX1_init_52 rfl (lv_at hl 0 rfl) ?_
  refine lv_bipush (v := 24) hx hb dX1_init_53 (by decide) ?_
  refine i_newa hx hb (ht _ m_80) hE hP hD hS hA 24 (by decide) (by decide) (by decide) 7 168 (Nat.le_of_ble_eq_true rfl) (Nat.le_of_ble_eq_true rfl) ⟨(Nat.le_of_ble_eq_true rfl), (Nat.le_of_ble_eq_true rfl)⟩ dX1_init_55 (fun q55 H hP hD hS => ?_)
  have hP : va_P D vwCl ([(h0, .inr (1, [.int 0, .ref q7, .ref q15, .ref q23, .ref q31, .ref q39, .ref q47, .null, .null])), (q7, .inl (ca 0, 24, .inl (fun _ => 0))), (q15, .inl (ca 0, 24, .inl (fun _ => 0))), (q23, .inl (ca 0, 24, .inl (fun _ => 0))), (q31, .inl (ca 0, 24, .inl (fun _ => 0))), (q39, .inl (ca 0, 24, .inl (fun _ => 0))), (q47, .inl (ca 0, 24, .inl (fun _ => 0))), (q55, .inl (ca 0, 24, .inl (fun _ => 0)))]) H := hP
  have hD : va_D A ([(h0, .inr (1, [.int 0, .ref q7, .ref q15, .ref q23, .ref q31, .ref q39, .ref q47, .null, .null])), (q7, .inl (ca 0, 24, .inl (fun _ => 0))), (q15, .inl (ca 0, 24, .inl (fun _ => 0))), (q23, .inl (ca 0, 24, .inl (fun _ => 0))), (q31, .inl (ca 0, 24, .inl (fun _ => 0))), (q39, .inl (ca 0, 24, .inl (fun _ => 0))), (q47, .inl (ca 0, 24, .inl (fun _ => 0))), (q55, .inl (ca 0, 24, .inl (fun _ => 0)))]) := hD
  refine va_putF (D := D) (ci := 1) (v := .ref q55) (ty := (.array .int)) (C := RX1) (T := TX1) (N := 9) hx hb ht uX1 tyX1 tyX1_ok nmX1 hown hE.1 hP hD hS 0 rfl rfl 7 (by decide) (ht _ m_136) (fun _ h9 => h9) rfl hin rfl (by decide +kernel) rfl rfl (Nat.le_of_ble_eq_true rfl) dX1_init_57 (fun H locs hP hD hS => ?_)
  have hP : va_P D vwCl ([(h0, .inr (1, [.int 0, .ref q7, .ref q15, .ref q23, .ref q31, .ref q39, .ref q47, .ref q55, .null])), (q7, .inl (ca 0, 24, .inl (fun _ => 0))), (q15, .inl (ca 0, 24, .inl (fun _ => 0))), (q23, .inl (ca 0, 24, .inl (fun _ => 0))), (q31, .inl (ca 0, 24, .inl (fun _ => 0))), (q39, .inl (ca 0, 24, .inl (fun _ => 0))), (q47, .inl (ca 0, 24, .inl (fun _ => 0))), (q55, .inl (ca 0, 24, .inl (fun _ => 0)))]) H := hP
  have hD : va_D A ([(h0, .inr (1, [.int 0, .ref q7, .ref q15, .ref q23, .ref q31, .ref q39, .ref q47, .ref q55, .null])), (q7, .inl (ca 0, 24, .inl (fun _ => 0))), (q15, .inl (ca 0, 24, .inl (fun _ => 0))), (q23, .inl (ca 0, 24, .inl (fun _ => 0))), (q31, .inl (ca 0, 24, .inl (fun _ => 0))), (q39, .inl (ca 0, 24, .inl (fun _ => 0))), (q47, .inl (ca 0, 24, .inl (fun _ => 0))), (q55, .inl (ca 0, 24, .inl (fun _ => 0)))]) := hD
  refine lv_aload_n hx hb dX1_init_60 rfl (lv_at hl 0 rfl) ?_
  refine lv_bipush (v := 24) hx hb dX1_init_61 (by decide) ?_
  refine i_newa hx hb (ht _ m_80) hE hP hD hS hA 24 (by decide) (by decide) (by decide) 8 192 (Nat.le_of_ble_eq_true rfl) (Nat.le_of_ble_eq_true rfl) ⟨(Nat.le_of_ble_eq_true rfl), (Nat.le_of_ble_eq_true rfl)⟩ dX1_init_63 (fun q63 H hP hD hS => ?_)
  have hP : va_P D vwCl ([(h0, .inr (1, [.int 0, .ref q7, .ref q15, .ref q23, .ref q31, .ref q39, .ref q47, .ref q55, .null])), (q7, .inl (ca 0, 24, .inl (fun _ => 0))), (q15, .inl (ca 0, 24, .inl (fun _ => 0))), (q23, .inl (ca 0, 24, .inl (fun _ => 0))), (q31, .inl (ca 0, 24, .inl (fun _ => 0))), (q39, .inl (ca 0, 24, .inl (fun _ => 0))), (q47, .inl (ca 0, 24, .inl (fun _ => 0))), (q55, .inl (ca 0, 24, .inl (fun _ => 0))), (q63, .inl (ca 0, 24, .inl (fun _ => 0)))]) H := hP
  have hD : va_D A ([(h0, .inr (1, [.int 0, .ref q7, .ref q15, .ref q23, .ref q31, .ref q39, .ref q47, .ref q55, .null])), (q7, .inl (ca 0, 24, .inl (fun _ => 0))), (q15, .inl (ca 0, 24, .inl (fun _ => 0))), (q23, .inl (ca 0, 24, .inl (fun _ => 0))), (q31, .inl (ca 0, 24, .inl (fun _ => 0))), (q39, .inl (ca 0, 24, .inl (fun _ => 0))), (q47, .inl (ca 0, 24, .inl (fun _ => 0))), (q55, .inl (ca 0, 24, .inl (fun _ => 0))), (q63, .inl (ca 0, 24, .inl (fun _ => 0)))]) := hD
  refine va_putF (D := D) (ci := 1) (v := .ref q63) (ty := (.array .int)) (C := RX1) (T := TX1) (N := 9) hx hb ht uX1 tyX1 tyX1_ok nmX1 hown hE.1 hP hD hS 0 rfl rfl 8 (by decide) (ht _ m_138) (fun _ h9 => h9) rfl hin rfl (by decide +kernel) rfl rfl (Nat.le_of_ble_eq_true rfl) dX1_init_65 (fun H locs hP hD hS => ?_)
  have hP : va_P D vwCl ([(h0, .inr (1, [.int 0, .ref q7, .ref q15, .ref q23, .ref q31, .ref q39, .ref q47, .ref q55, .ref q63])), (q7, .inl (ca 0, 24, .inl (fun _ => 0))), (q15, .inl (ca 0, 24, .inl (fun _ => 0))), (q23, .inl (ca 0, 24, .inl (fun _ => 0))), (q31, .inl (ca 0, 24, .inl (fun _ => 0))), (q39, .inl (ca 0, 24, .inl (fun _ => 0))), (q47, .inl (ca 0, 24, .inl (fun _ => 0))), (q55, .inl (ca 0, 24, .inl (fun _ => 0))), (q63, .inl (ca 0, 24, .inl (fun _ => 0)))]) H := hP
  have hD : va_D A ([(h0, .inr (1, [.int 0, .ref q7, .ref q15, .ref q23, .ref q31, .ref q39, .ref q47, .ref q55, .ref q63])), (q7, .inl (ca 0, 24, .inl (fun _ => 0))), (q15, .inl (ca 0, 24, .inl (fun _ => 0))), (q23, .inl (ca 0, 24, .inl (fun _ => 0))), (q31, .inl (ca 0, 24, .inl (fun _ => 0))), (q39, .inl (ca 0, 24, .inl (fun _ => 0))), (q47, .inl (ca 0, 24, .inl (fun _ => 0))), (q55, .inl (ca 0, 24, .inl (fun _ => 0))), (q63, .inl (ca 0, 24, .inl (fun _ => 0)))]) := hD
  exact i_ret (w := wX1 ca) (h0 := h0) (fun k => ([h0, q7, q15, q23, q31, q39, q47, q55, q63] : List Nat).getD k 0) hx hb hr hlk (Nat.le_of_ble_eq_true rfl) (Nat.le_of_ble_eq_true rfl) ⟨(Nat.le_of_ble_eq_true rfl), (Nat.le_of_ble_eq_true rfl)⟩ hP hD hS dX1_init_68
set_option maxHeartbeats 8000000 in
set_option maxRecDepth 100000 in
theorem i_X2 (l : Launch) (D : va_G) (ca : Nat → ClassId) : iC l D ca yX2_init cX2_init 1 { frames := 1, cells := 4, slots := 48, locals := 12 } 2 [.int 0, .null, .null, .null, .null] [] (wX2 ca) := by
  refine iC_of (by decide) rfl (fun h0 => Nat.le_of_ble_eq_true rfl) ?_
  intro p e s m below meth c h0 A hx hb hr ht hown hlk hml hin hE hA hP hD ls hl
  have hS : va_S A s.heap s.heap [] := va_S.rf
  have hl : lv_has ls 1 [(0, .ref h0)] := hl
  refine lv_aload_n hx hb dX2_init_0 rfl (lv_at hl 0 rfl) ?_
  refine W.objInit hx hb hown (ht _ m_164) (ht _ m_52) (ht _ m_53) rfl (by rw [hml]; exact hl.1) rfl dX2_init_1 (Nat.le_of_ble_eq_true rfl) (Nat.le_of_ble_eq_true rfl) ?_
  refine W.eq (g2 := F0 m 4 ls []) rfl ?_
  refine lv_aload_n hx hb dX2_init_4 rfl (lv_at hl 0 rfl) ?_
  refine lv_bipush (v := 12) hx hb dX2_init_5 (by decide) ?_
  refine i_newa hx hb (ht _ m_80) hE hP hD hS hA 12 (by decide) (by decide) (by decide) 1 12 (Nat.le_of_ble_eq_true rfl) (Nat.le_of_ble_eq_true rfl) ⟨(Nat.le_of_ble_eq_true rfl), (Nat.le_of_ble_eq_true rfl)⟩ dX2_init_7 (fun q7 H hP hD hS => ?_)
  have hP : va_P D vwCl ([(h0, .inr (2, [.int 0, .null, .null, .null, .null])), (q7, .inl (ca 0, 12, .inl (fun _ => 0)))]) H := hP
  have hD : va_D A ([(h0, .inr (2, [.int 0, .null, .null, .null, .null])), (q7, .inl (ca 0, 12, .inl (fun _ => 0)))]) := hD
  refine va_putF (D := D) (ci := 2) (v := .ref q7) (ty := (.array .int)) (C := RX2) (T := TX2) (N := 5) hx hb ht uX2 tyX2 tyX2_ok nmX2 hown hE.1 hP hD hS 0 rfl rfl 1 (by decide) (ht _ m_167) (fun _ h9 => h9) rfl hin rfl (by decide +kernel) rfl rfl (Nat.le_of_ble_eq_true rfl) dX2_init_9 (fun H locs hP hD hS => ?_)
  have hP : va_P D vwCl ([(h0, .inr (2, [.int 0, .ref q7, .null, .null, .null])), (q7, .inl (ca 0, 12, .inl (fun _ => 0)))]) H := hP
  have hD : va_D A ([(h0, .inr (2, [.int 0, .ref q7, .null, .null, .null])), (q7, .inl (ca 0, 12, .inl (fun _ => 0)))]) := hD
  refine lv_aload_n hx hb dX2_init_12 rfl (lv_at hl 0 rfl) ?_
  refine lv_bipush (v := 12) hx hb dX2_init_13 (by decide) ?_
  refine i_newa hx hb (ht _ m_80) hE hP hD hS hA 12 (by decide) (by decide) (by decide) 2 24 (Nat.le_of_ble_eq_true rfl) (Nat.le_of_ble_eq_true rfl) ⟨(Nat.le_of_ble_eq_true rfl), (Nat.le_of_ble_eq_true rfl)⟩ dX2_init_15 (fun q15 H hP hD hS => ?_)
  have hP : va_P D vwCl ([(h0, .inr (2, [.int 0, .ref q7, .null, .null, .null])), (q7, .inl (ca 0, 12, .inl (fun _ => 0))), (q15, .inl (ca 0, 12, .inl (fun _ => 0)))]) H := hP
  have hD : va_D A ([(h0, .inr (2, [.int 0, .ref q7, .null, .null, .null])), (q7, .inl (ca 0, 12, .inl (fun _ => 0))), (q15, .inl (ca 0, 12, .inl (fun _ => 0)))]) := hD
  refine va_putF (D := D) (ci := 2) (v := .ref q15) (ty := (.array .int)) (C := RX2) (T := TX2) (N := 5) hx hb ht uX2 tyX2 tyX2_ok nmX2 hown hE.1 hP hD hS 0 rfl rfl 2 (by decide) (ht _ m_168) (fun _ h9 => h9) rfl hin rfl (by decide +kernel) rfl rfl (Nat.le_of_ble_eq_true rfl) dX2_init_17 (fun H locs hP hD hS => ?_)
  have hP : va_P D vwCl ([(h0, .inr (2, [.int 0, .ref q7, .ref q15, .null, .null])), (q7, .inl (ca 0, 12, .inl (fun _ => 0))), (q15, .inl (ca 0, 12, .inl (fun _ => 0)))]) H := hP
  have hD : va_D A ([(h0, .inr (2, [.int 0, .ref q7, .ref q15, .null, .null])), (q7, .inl (ca 0, 12, .inl (fun _ => 0))), (q15, .inl (ca 0, 12, .inl (fun _ => 0)))]) := hD
  refine lv_aload_n hx hb dX2_init_20 rfl (lv_at hl 0 rfl) ?_
  refine lv_bipush (v := 12) hx hb dX2_init_21 (by decide) ?_
  refine i_newa hx hb (ht _ m_80) hE hP hD hS hA 12 (by decide) (by decide) (by decide) 3 36 (Nat.le_of_ble_eq_true rfl) (Nat.le_of_ble_eq_true rfl) ⟨(Nat.le_of_ble_eq_true rfl), (Nat.le_of_ble_eq_true rfl)⟩ dX2_init_23 (fun q23 H hP hD hS => ?_)
  have hP : va_P D vwCl ([(h0, .inr (2, [.int 0, .ref q7, .ref q15, .null, .null])), (q7, .inl (ca 0, 12, .inl (fun _ => 0))), (q15, .inl (ca 0, 12, .inl (fun _ => 0))), (q23, .inl (ca 0, 12, .inl (fun _ => 0)))]) H := hP
  have hD : va_D A ([(h0, .inr (2, [.int 0, .ref q7, .ref q15, .null, .null])), (q7, .inl (ca 0, 12, .inl (fun _ => 0))), (q15, .inl (ca 0, 12, .inl (fun _ => 0))), (q23, .inl (ca 0, 12, .inl (fun _ => 0)))]) := hD
  refine va_putF (D := D) (ci := 2) (v := .ref q23) (ty := (.array .int)) (C := RX2) (T := TX2) (N := 5) hx hb ht uX2 tyX2 tyX2_ok nmX2 hown hE.1 hP hD hS 0 rfl rfl 3 (by decide) (ht _ m_169) (fun _ h9 => h9) rfl hin rfl (by decide +kernel) rfl rfl (Nat.le_of_ble_eq_true rfl) dX2_init_25 (fun H locs hP hD hS => ?_)
  have hP : va_P D vwCl ([(h0, .inr (2, [.int 0, .ref q7, .ref q15, .ref q23, .null])), (q7, .inl (ca 0, 12, .inl (fun _ => 0))), (q15, .inl (ca 0, 12, .inl (fun _ => 0))), (q23, .inl (ca 0, 12, .inl (fun _ => 0)))]) H := hP
  have hD : va_D A ([(h0, .inr (2, [.int 0, .ref q7, .ref q15, .ref q23, .null])), (q7, .inl (ca 0, 12, .inl (fun _ => 0))), (q15, .inl (ca 0, 12, .inl (fun _ => 0))), (q23, .inl (ca 0, 12, .inl (fun _ => 0)))]) := hD
  refine lv_aload_n hx hb dX2_init_28 rfl (lv_at hl 0 rfl) ?_
  refine lv_bipush (v := 12) hx hb dX2_init_29 (by decide) ?_
  refine i_newa hx hb (ht _ m_80) hE hP hD hS hA 12 (by decide) (by decide) (by decide) 4 48 (Nat.le_of_ble_eq_true rfl) (Nat.le_of_ble_eq_true rfl) ⟨(Nat.le_of_ble_eq_true rfl), (Nat.le_of_ble_eq_true rfl)⟩ dX2_init_31 (fun q31 H hP hD hS => ?_)
  have hP : va_P D vwCl ([(h0, .inr (2, [.int 0, .ref q7, .ref q15, .ref q23, .null])), (q7, .inl (ca 0, 12, .inl (fun _ => 0))), (q15, .inl (ca 0, 12, .inl (fun _ => 0))), (q23, .inl (ca 0, 12, .inl (fun _ => 0))), (q31, .inl (ca 0, 12, .inl (fun _ => 0)))]) H := hP
  have hD : va_D A ([(h0, .inr (2, [.int 0, .ref q7, .ref q15, .ref q23, .null])), (q7, .inl (ca 0, 12, .inl (fun _ => 0))), (q15, .inl (ca 0, 12, .inl (fun _ => 0))), (q23, .inl (ca 0, 12, .inl (fun _ => 0))), (q31, .inl (ca 0, 12, .inl (fun _ => 0)))]) := hD
  refine va_putF (D := D) (ci := 2) (v := .ref q31) (ty := (.array .int)) (C := RX2) (T := TX2) (N := 5) hx hb ht uX2 tyX2 tyX2_ok nmX2 hown hE.1 hP hD hS 0 rfl rfl 4 (by decide) (ht _ m_171) (fun _ h9 => h9) rfl hin rfl (by decide +kernel) rfl rfl (Nat.le_of_ble_eq_true rfl) dX2_init_33 (fun H locs hP hD hS => ?_)
  have hP : va_P D vwCl ([(h0, .inr (2, [.int 0, .ref q7, .ref q15, .ref q23, .ref q31])), (q7, .inl (ca 0, 12, .inl (fun _ => 0))), (q15, .inl (ca 0, 12, .inl (fun _ => 0))), (q23, .inl (ca 0, 12, .inl (fun _ => 0))), (q31, .inl (ca 0, 12, .inl (fun _ => 0)))]) H := hP
  have hD : va_D A ([(h0, .inr (2, [.int 0, .ref q7, .ref q15, .ref q23, .ref q31])), (q7, .inl (ca 0, 12, .inl (fun _ => 0))), (q15, .inl (ca 0, 12, .inl (fun _ => 0))), (q23, .inl (ca 0, 12, .inl (fun _ => 0))), (q31, .inl (ca 0, 12, .inl (fun _ => 0)))]) := hD
  exact i_ret (w := wX2 ca) (h0 := h0) (fun k => ([h0, q7, q15, q23, q31] : List Nat).getD k 0) hx hb hr hlk (Nat.le_of_ble_eq_true rfl) (Nat.le_of_ble_eq_true rfl) ⟨(Nat.le_of_ble_eq_true rfl), (Nat.le_of_ble_eq_true rfl)⟩ hP hD hS dX2_init_36
set_option maxHeartbeats 8000000 in
set_option maxRecDepth 100000 in
theorem i_X3 (l : Launch) (D : va_G) (ca : Nat → ClassId) : iC l D ca yX3_init cX3_init 1 { frames := 1, cells := 6, slots := 120, locals := 12 } 3 [.int 0, .null, .null, .null, .null, .null, .null] [] (wX3 ca) := by
  refine iC_of (by decide) rfl (fun h0 => Nat.le_of_ble_eq_true rfl) ?_
  intro p e s m below meth c h0 A hx hb hr ht hown hlk hml hin hE hA hP hD ls hl
  have hS : va_S A s.heap s.heap [] := va_S.rf
  have hl : lv_has ls 1 [(0, .ref h0)] := hl
  refine lv_aload_n hx hb dX3_init_0 rfl (lv_at hl 0 rfl) ?_
  refine W.objInit hx hb hown (ht _ m_189) (ht _ m_52) (ht _ m_53) rfl (by rw [hml]; exact hl.1) rfl dX3_init_1 (Nat.le_of_ble_eq_true rfl) (Nat.le_of_ble_eq_true rfl) ?_
  refine W.eq (g2 := F0 m 4 ls []) rfl ?_
  refine lv_aload_n hx hb dX3_init_4 rfl (lv_at hl 0 rfl) ?_
  refine lv_bipush (v := 20) hx hb dX3_init_5 (by decide) ?_
  refine i_newa hx hb (ht _ m_80) hE hP hD hS hA 20 (by decide) (by decide) (by decide) 1 20 (Nat.le_of_ble_eq_true rfl) (Nat.le_of_ble_eq_true rfl) ⟨(Nat.le_of_ble_eq_true rfl), (Nat.le_of_ble_eq_true rfl)⟩ dX3_init_7 (fun q7 H hP hD hS => ?_)
  have hP : va_P D vwCl ([(h0, .inr (3, [.int 0, .null, .null, .null, .null, .null, .null])), (q7, .inl (ca 0, 20, .inl (fun _ => 0)))]) H := hP
  have hD : va_D A ([(h0, .inr (3, [.int 0, .null, .null, .null, .null, .null, .null])), (q7, .inl (ca 0, 20, .inl (fun _ => 0)))]) := hD
  refine va_putF (D := D) (ci := 3) (v := .ref q7) (ty := (.array .int)) (C := RX3) (T := TX3) (N := 7) hx hb ht uX3 tyX3 tyX3_ok nmX3 hown hE.1 hP hD hS 0 rfl rfl 1 (by decide) (ht _ m_192) (fun _ h9 => h9) rfl hin rfl (by decide +kernel) rfl rfl (Nat.le_of_ble_eq_true rfl) dX3_init_9 (fun H locs hP hD hS => ?_)
  have hP : va_P D vwCl ([(h0, .inr (3, [.int 0, .ref q7, .null, .null, .null, .null, .null])), (q7, .inl (ca 0, 20, .inl (fun _ => 0)))]) H := hP
  have hD : va_D A ([(h0, .inr (3, [.int 0, .ref q7, .null, .null, .null, .null, .null])), (q7, .inl (ca 0, 20, .inl (fun _ => 0)))]) := hD
  refine lv_aload_n hx hb dX3_init_12 rfl (lv_at hl 0 rfl) ?_
  refine lv_bipush (v := 20) hx hb dX3_init_13 (by decide) ?_
  refine i_newa hx hb (ht _ m_80) hE hP hD hS hA 20 (by decide) (by decide) (by decide) 2 40 (Nat.le_of_ble_eq_true rfl) (Nat.le_of_ble_eq_true rfl) ⟨(Nat.le_of_ble_eq_true rfl), (Nat.le_of_ble_eq_true rfl)⟩ dX3_init_15 (fun q15 H hP hD hS => ?_)
  have hP : va_P D vwCl ([(h0, .inr (3, [.int 0, .ref q7, .null, .null, .null, .null, .null])), (q7, .inl (ca 0, 20, .inl (fun _ => 0))), (q15, .inl (ca 0, 20, .inl (fun _ => 0)))]) H := hP
  have hD : va_D A ([(h0, .inr (3, [.int 0, .ref q7, .null, .null, .null, .null, .null])), (q7, .inl (ca 0, 20, .inl (fun _ => 0))), (q15, .inl (ca 0, 20, .inl (fun _ => 0)))]) := hD
  refine va_putF (D := D) (ci := 3) (v := .ref q15) (ty := (.array .int)) (C := RX3) (T := TX3) (N := 7) hx hb ht uX3 tyX3 tyX3_ok nmX3 hown hE.1 hP hD hS 0 rfl rfl 2 (by decide) (ht _ m_194) (fun _ h9 => h9) rfl hin rfl (by decide +kernel) rfl rfl (Nat.le_of_ble_eq_true rfl) dX3_init_17 (fun H locs hP hD hS => ?_)
  have hP : va_P D vwCl ([(h0, .inr (3, [.int 0, .ref q7, .ref q15, .null, .null, .null, .null])), (q7, .inl (ca 0, 20, .inl (fun _ => 0))), (q15, .inl (ca 0, 20, .inl (fun _ => 0)))]) H := hP
  have hD : va_D A ([(h0, .inr (3, [.int 0, .ref q7, .ref q15, .null, .null, .null, .null])), (q7, .inl (ca 0, 20, .inl (fun _ => 0))), (q15, .inl (ca 0, 20, .inl (fun _ => 0)))]) := hD
  refine lv_aload_n hx hb dX3_init_20 rfl (lv_at hl 0 rfl) ?_
  refine lv_bipush (v := 20) hx hb dX3_init_21 (by decide) ?_
  refine i_newa hx hb (ht _ m_80) hE hP hD hS hA 20 (by decide) (by decide) (by decide) 3 60 (Nat.le_of_ble_eq_true rfl) (Nat.le_of_ble_eq_true rfl) ⟨(Nat.le_of_ble_eq_true rfl), (Nat.le_of_ble_eq_true rfl)⟩ dX3_init_23 (fun q23 H hP hD hS => ?_)
  have hP : va_P D vwCl ([(h0, .inr (3, [.int 0, .ref q7, .ref q15, .null, .null, .null, .null])), (q7, .inl (ca 0, 20, .inl (fun _ => 0))), (q15, .inl (ca 0, 20, .inl (fun _ => 0))), (q23, .inl (ca 0, 20, .inl (fun _ => 0)))]) H := hP
  have hD : va_D A ([(h0, .inr (3, [.int 0, .ref q7, .ref q15, .null, .null, .null, .null])), (q7, .inl (ca 0, 20, .inl (fun _ => 0))), (q15, .inl (ca 0, 20, .inl (fun _ => 0))), (q23, .inl (ca 0, 20, .inl (fun _ => 0)))]) := hD
  refine va_putF (D := D) (ci := 3) (v := .ref q23) (ty := (.array .int)) (C := RX3) (T := TX3) (N := 7) hx hb ht uX3 tyX3 tyX3_ok nmX3 hown hE.1 hP hD hS 0 rfl rfl 3 (by decide) (ht _ m_196) (fun _ h9 => h9) rfl hin rfl (by decide +kernel) rfl rfl (Nat.le_of_ble_eq_true rfl) dX3_init_25 (fun H locs hP hD hS => ?_)
  have hP : va_P D vwCl ([(h0, .inr (3, [.int 0, .ref q7, .ref q15, .ref q23, .null, .null, .null])), (q7, .inl (ca 0, 20, .inl (fun _ => 0))), (q15, .inl (ca 0, 20, .inl (fun _ => 0))), (q23, .inl (ca 0, 20, .inl (fun _ => 0)))]) H := hP
  have hD : va_D A ([(h0, .inr (3, [.int 0, .ref q7, .ref q15, .ref q23, .null, .null, .null])), (q7, .inl (ca 0, 20, .inl (fun _ => 0))), (q15, .inl (ca 0, 20, .inl (fun _ => 0))), (q23, .inl (ca 0, 20, .inl (fun _ => 0)))]) := hD
  refine lv_aload_n hx hb dX3_init_28 rfl (lv_at hl 0 rfl) ?_
  refine lv_bipush (v := 20) hx hb dX3_init_29 (by decide) ?_
  refine i_newa hx hb (ht _ m_80) hE hP hD hS hA 20 (by decide) (by decide) (by decide) 4 80 (Nat.le_of_ble_eq_true rfl) (Nat.le_of_ble_eq_true rfl) ⟨(Nat.le_of_ble_eq_true rfl), (Nat.le_of_ble_eq_true rfl)⟩ dX3_init_31 (fun q31 H hP hD hS => ?_)
  have hP : va_P D vwCl ([(h0, .inr (3, [.int 0, .ref q7, .ref q15, .ref q23, .null, .null, .null])), (q7, .inl (ca 0, 20, .inl (fun _ => 0))), (q15, .inl (ca 0, 20, .inl (fun _ => 0))), (q23, .inl (ca 0, 20, .inl (fun _ => 0))), (q31, .inl (ca 0, 20, .inl (fun _ => 0)))]) H := hP
  have hD : va_D A ([(h0, .inr (3, [.int 0, .ref q7, .ref q15, .ref q23, .null, .null, .null])), (q7, .inl (ca 0, 20, .inl (fun _ => 0))), (q15, .inl (ca 0, 20, .inl (fun _ => 0))), (q23, .inl (ca 0, 20, .inl (fun _ => 0))), (q31, .inl (ca 0, 20, .inl (fun _ => 0)))]) := hD
  refine va_putF (D := D) (ci := 3) (v := .ref q31) (ty := (.array .int)) (C := RX3) (T := TX3) (N := 7) hx hb ht uX3 tyX3 tyX3_ok nmX3 hown hE.1 hP hD hS 0 rfl rfl 4 (by decide) (ht _ m_198) (fun _ h9 => h9) rfl hin rfl (by decide +kernel) rfl rfl (Nat.le_of_ble_eq_true rfl) dX3_init_33 (fun H locs hP hD hS => ?_)
  have hP : va_P D vwCl ([(h0, .inr (3, [.int 0, .ref q7, .ref q15, .ref q23, .ref q31, .null, .null])), (q7, .inl (ca 0, 20, .inl (fun _ => 0))), (q15, .inl (ca 0, 20, .inl (fun _ => 0))), (q23, .inl (ca 0, 20, .inl (fun _ => 0))), (q31, .inl (ca 0, 20, .inl (fun _ => 0)))]) H := hP
  have hD : va_D A ([(h0, .inr (3, [.int 0, .ref q7, .ref q15, .ref q23, .ref q31, .null, .null])), (q7, .inl (ca 0, 20, .inl (fun _ => 0))), (q15, .inl (ca 0, 20, .inl (fun _ => 0))), (q23, .inl (ca 0, 20, .inl (fun _ => 0))), (q31, .inl (ca 0, 20, .inl (fun _ => 0)))]) := hD
  refine lv_aload_n hx hb dX3_init_36 rfl (lv_at hl 0 rfl) ?_
  refine lv_bipush (v := 20) hx hb dX3_init_37 (by decide) ?_
  refine i_newa hx hb (ht _ m_80) hE hP hD hS hA 20 (by decide) (by decide) (by decide) 5 100 (Nat.le_of_ble_eq_true rfl) (Nat.le_of_ble_eq_true rfl) ⟨(Nat.le_of_ble_eq_true rfl), (Nat.le_of_ble_eq_true rfl)⟩ dX3_init_39 (fun q39 H hP hD hS => ?_)
  have hP : va_P D vwCl ([(h0, .inr (3, [.int 0, .ref q7, .ref q15, .ref q23, .ref q31, .null, .null])), (q7, .inl (ca 0, 20, .inl (fun _ => 0))), (q15, .inl (ca 0, 20, .inl (fun _ => 0))), (q23, .inl (ca 0, 20, .inl (fun _ => 0))), (q31, .inl (ca 0, 20, .inl (fun _ => 0))), (q39, .inl (ca 0, 20, .inl (fun _ => 0)))]) H := hP
  have hD : va_D A ([(h0, .inr (3, [.int 0, .ref q7, .ref q15, .ref q23, .ref q31, .null, .null])), (q7, .inl (ca 0, 20, .inl (fun _ => 0))), (q15, .inl (ca 0, 20, .inl (fun _ => 0))), (q23, .inl (ca 0, 20, .inl (fun _ => 0))), (q31, .inl (ca 0, 20, .inl (fun _ => 0))), (q39, .inl (ca 0, 20, .inl (fun _ => 0)))]) := hD
  refine va_putF (D := D) (ci := 3) (v := .ref q39) (ty := (.array .int)) (C := RX3) (T := TX3) (N := 7) hx hb ht uX3 tyX3 tyX3_ok nmX3 hown hE.1 hP hD hS 0 rfl rfl 5 (by decide) (ht _ m_200) (fun _ h9 => h9) rfl hin rfl (by decide +kernel) rfl rfl (Nat.le_of_ble_eq_true rfl) dX3_init_41 (fun H locs hP hD hS => ?_)
  have hP : va_P D vwCl ([(h0, .inr (3, [.int 0, .ref q7, .ref q15, .ref q23, .ref q31, .ref q39, .null])), (q7, .inl (ca 0, 20, .inl (fun _ => 0))), (q15, .inl (ca 0, 20, .inl (fun _ => 0))), (q23, .inl (ca 0, 20, .inl (fun _ => 0))), (q31, .inl (ca 0, 20, .inl (fun _ => 0))), (q39, .inl (ca 0, 20, .inl (fun _ => 0)))]) H := hP
  have hD : va_D A ([(h0, .inr (3, [.int 0, .ref q7, .ref q15, .ref q23, .ref q31, .ref q39, .null])), (q7, .inl (ca 0, 20, .inl (fun _ => 0))), (q15, .inl (ca 0, 20, .inl (fun _ => 0))), (q23, .inl (ca 0, 20, .inl (fun _ => 0))), (q31, .inl (ca 0, 20, .inl (fun _ => 0))), (q39, .inl (ca 0, 20, .inl (fun _ => 0)))]) := hD
  refine lv_aload_n hx hb dX3_init_44 rfl (lv_at hl 0 rfl) ?_
  refine lv_bipush (v := 20) hx hb dX3_init_45 (by decide) ?_
  refine i_newa hx hb (ht _ m_80) hE hP hD hS hA 20 (by decide) (by decide) (by decide) 6 120 (Nat.le_of_ble_eq_true rfl) (Nat.le_of_ble_eq_true rfl) ⟨(Nat.le_of_ble_eq_true rfl), (Nat.le_of_ble_eq_true rfl)⟩ dX3_init_47 (fun q47 H hP hD hS => ?_)
  have hP : va_P D vwCl ([(h0, .inr (3, [.int 0, .ref q7, .ref q15, .ref q23, .ref q31, .ref q39, .null])), (q7, .inl (ca 0, 20, .inl (fun _ => 0))), (q15, .inl (ca 0, 20, .inl (fun _ => 0))), (q23, .inl (ca 0, 20, .inl (fun _ => 0))), (q31, .inl (ca 0, 20, .inl (fun _ => 0))), (q39, .inl (ca 0, 20, .inl (fun _ => 0))), (q47, .inl (ca 0, 20, .inl (fun _ => 0)))]) H := hP
  have hD : va_D A ([(h0, .inr (3, [.int 0, .ref q7, .ref q15, .ref q23, .ref q31, .ref q39, .null])), (q7, .inl (ca 0, 20, .inl (fun _ => 0))), (q15, .inl (ca 0, 20, .inl (fun _ => 0))), (q23, .inl (ca 0, 20, .inl (fun _ => 0))), (q31, .inl (ca 0, 20, .inl (fun _ => 0))), (q39, .inl (ca 0, 20, .inl (fun _ => 0))), (q47, .inl (ca 0, 20, .inl (fun _ => 0)))]) := hD
  refine va_putF (D := D) (ci := 3) (v := .ref q47) (ty := (.array .int)) (C := RX3) (T := TX3) (N := 7) hx hb ht uX3 tyX3 tyX3_ok nmX3 hown hE.1 hP hD hS 0 rfl rfl 6 (by decide) (ht _ m_202) (fun _ h9 => h9) rfl hin rfl (by decide +kernel) rfl rfl (Nat.le_of_ble_eq_true rfl) dX3_init_49 (fun H locs hP hD hS => ?_)
  have hP : va_P D vwCl ([(h0, .inr (3, [.int 0, .ref q7, .ref q15, .ref q23, .ref q31, .ref q39, .ref q47])), (q7, .inl (ca 0, 20, .inl (fun _ => 0))), (q15, .inl (ca 0, 20, .inl (fun _ => 0))), (q23, .inl (ca 0, 20, .inl (fun _ => 0))), (q31, .inl (ca 0, 20, .inl (fun _ => 0))), (q39, .inl (ca 0, 20, .inl (fun _ => 0))), (q47, .inl (ca 0, 20, .inl (fun _ => 0)))]) H := hP
  have hD : va_D A ([(h0, .inr (3, [.int 0, .ref q7, .ref q15, .ref q23, .ref q31, .ref q39, .ref q47])), (q7, .inl (ca 0, 20, .inl (fun _ => 0))), (q15, .inl (ca 0, 20, .inl (fun _ => 0))), (q23, .inl (ca 0, 20, .inl (fun _ => 0))), (q31, .inl (ca 0, 20, .inl (fun _ => 0))), (q39, .inl (ca 0, 20, .inl (fun _ => 0))), (q47, .inl (ca 0, 20, .inl (fun _ => 0)))]) := hD
  exact i_ret (w := wX3 ca) (h0 := h0) (fun k => ([h0, q7, q15, q23, q31, q39, q47] : List Nat).getD k 0) hx hb hr hlk (Nat.le_of_ble_eq_true rfl) (Nat.le_of_ble_eq_true rfl) ⟨(Nat.le_of_ble_eq_true rfl), (Nat.le_of_ble_eq_true rfl)⟩ hP hD hS dX3_init_52
set_option maxHeartbeats 8000000 in
set_option maxRecDepth 100000 in
theorem i_X6 (l : Launch) (D : va_G) (ca : Nat → ClassId) : iC l D ca yX6_init cX6_init 1 { frames := 1, cells := 4, slots := 90, locals := 12 } 6 [.int 0, .null, .null, .null, .null] [] (wX6 ca) := by
  refine iC_of (by decide) rfl (fun h0 => Nat.le_of_ble_eq_true rfl) ?_
  intro p e s m below meth c h0 A hx hb hr ht hown hlk hml hin hE hA hP hD ls hl
  have hS : va_S A s.heap s.heap [] := va_S.rf
  have hl : lv_has ls 1 [(0, .ref h0)] := hl
  refine lv_aload_n hx hb dX6_init_0 rfl (lv_at hl 0 rfl) ?_
  refine W.objInit hx hb hown (ht _ m_224) (ht _ m_52) (ht _ m_53) rfl (by rw [hml]; exact hl.1) rfl dX6_init_1 (Nat.le_of_ble_eq_true rfl) (Nat.le_of_ble_eq_true rfl) ?_
  refine W.eq (g2 := F0 m 4 ls []) rfl ?_
  refine lv_aload_n hx hb dX6_init_4 rfl (lv_at hl 0 rfl) ?_
  refine lv_iconst (v := 3) hx hb dX6_init_5 (by decide) ?_
  refine va_put (D := D) (ci := 6) (v := .int 3) (ty := .int) (C := RX6) (T := TX6) (N := 5) hx hb ht uX6 tyX6 tyX6_ok nmX6 hown hE.1 hP hD hS 0 rfl rfl 0 (by decide) (ht _ m_225) (fun _ h9 => h9) rfl (by decide +kernel) rfl rfl (Nat.le_of_ble_eq_true rfl) dX6_init_6 (fun H locs hP hD hS => ?_)
  have hP : va_P D vwCl ([(h0, .inr (6, [.int 3, .null, .null, .null, .null]))]) H := hP
  have hD : va_D A ([(h0, .inr (6, [.int 3, .null, .null, .null, .null]))]) := hD
  refine lv_aload_n hx hb dX6_init_9 rfl (lv_at hl 0 rfl) ?_
  refine lv_bipush (v := 10) hx hb dX6_init_10 (by decide) ?_
  refine i_newa hx hb (ht _ m_80) hE hP hD hS hA 10 (by decide) (by decide) (by decide) 1 10 (Nat.le_of_ble_eq_true rfl) (Nat.le_of_ble_eq_true rfl) ⟨(Nat.le_of_ble_eq_true rfl), (Nat.le_of_ble_eq_true rfl)⟩ dX6_init_12 (fun q12 H hP hD hS => ?_)
  have hP : va_P D vwCl ([(h0, .inr (6, [.int 3, .null, .null, .null, .null])), (q12, .inl (ca 0, 10, .inl (fun _ => 0)))]) H := hP
  have hD : va_D A ([(h0, .inr (6, [.int 3, .null, .null, .null, .null])), (q12, .inl (ca 0, 10, .inl (fun _ => 0)))]) := hD
  refine va_putF (D := D) (ci := 6) (v := .ref q12) (ty := (.array .int)) (C := RX6) (T := TX6) (N := 5) hx hb ht uX6 tyX6 tyX6_ok nmX6 hown hE.1 hP hD hS 0 rfl rfl 1 (by decide) (ht _ m_227) (fun _ h9 => h9) rfl hin rfl (by decide +kernel) rfl rfl (Nat.le_of_ble_eq_true rfl) dX6_init_14 (fun H locs hP hD hS => ?_)
  have hP : va_P D vwCl ([(h0, .inr (6, [.int 3, .ref q12, .null, .null, .null])), (q12, .inl (ca 0, 10, .inl (fun _ => 0)))]) H := hP
  have hD : va_D A ([(h0, .inr (6, [.int 3, .ref q12, .null, .null, .null])), (q12, .inl (ca 0, 10, .inl (fun _ => 0)))]) := hD
  refine lv_aload_n hx hb dX6_init_17 rfl (lv_at hl 0 rfl) ?_
  refine lv_bipush (v := 10) hx hb dX6_init_18 (by decide) ?_
  refine i_newa hx hb (ht _ m_80) hE hP hD hS hA 10 (by decide) (by decide) (by decide) 2 20 (Nat.le_of_ble_eq_true rfl) (Nat.le_of_ble_eq_true rfl) ⟨(Nat.le_of_ble_eq_true rfl), (Nat.le_of_ble_eq_true rfl)⟩ dX6_init_20 (fun q20 H hP hD hS => ?_)
  have hP : va_P D vwCl ([(h0, .inr (6, [.int 3, .ref q12, .null, .null, .null])), (q12, .inl (ca 0, 10, .inl (fun _ => 0))), (q20, .inl (ca 0, 10, .inl (fun _ => 0)))]) H := hP
  have hD : va_D A ([(h0, .inr (6, [.int 3, .ref q12, .null, .null, .null])), (q12, .inl (ca 0, 10, .inl (fun _ => 0))), (q20, .inl (ca 0, 10, .inl (fun _ => 0)))]) := hD
  refine va_putF (D := D) (ci := 6) (v := .ref q20) (ty := (.array .int)) (C := RX6) (T := TX6) (N := 5) hx hb ht uX6 tyX6 tyX6_ok nmX6 hown hE.1 hP hD hS 0 rfl rfl 2 (by decide) (ht _ m_229) (fun _ h9 => h9) rfl hin rfl (by decide +kernel) rfl rfl (Nat.le_of_ble_eq_true rfl) dX6_init_22 (fun H locs hP hD hS => ?_)
  have hP : va_P D vwCl ([(h0, .inr (6, [.int 3, .ref q12, .ref q20, .null, .null])), (q12, .inl (ca 0, 10, .inl (fun _ => 0))), (q20, .inl (ca 0, 10, .inl (fun _ => 0)))]) H := hP
  have hD : va_D A ([(h0, .inr (6, [.int 3, .ref q12, .ref q20, .null, .null])), (q12, .inl (ca 0, 10, .inl (fun _ => 0))), (q20, .inl (ca 0, 10, .inl (fun _ => 0)))]) := hD
  refine lv_aload_n hx hb dX6_init_25 rfl (lv_at hl 0 rfl) ?_
  refine lv_bipush (v := 10) hx hb dX6_init_26 (by decide) ?_
  refine i_newa hx hb (ht _ m_80) hE hP hD hS hA 10 (by decide) (by decide) (by decide) 3 30 (Nat.le_of_ble_eq_true rfl) (Nat.le_of_ble_eq_true rfl) ⟨(Nat.le_of_ble_eq_true rfl), (Nat.le_of_ble_eq_true rfl)⟩ dX6_init_28 (fun q28 H hP hD hS => ?_)
  have hP : va_P D vwCl ([(h0, .inr (6, [.int 3, .ref q12, .ref q20, .null, .null])), (q12, .inl (ca 0, 10, .inl (fun _ => 0))), (q20, .inl (ca 0, 10, .inl (fun _ => 0))), (q28, .inl (ca 0, 10, .inl (fun _ => 0)))]) H := hP
  have hD : va_D A ([(h0, .inr (6, [.int 3, .ref q12, .ref q20, .null, .null])), (q12, .inl (ca 0, 10, .inl (fun _ => 0))), (q20, .inl (ca 0, 10, .inl (fun _ => 0))), (q28, .inl (ca 0, 10, .inl (fun _ => 0)))]) := hD
  refine va_putF (D := D) (ci := 6) (v := .ref q28) (ty := (.array .int)) (C := RX6) (T := TX6) (N := 5) hx hb ht uX6 tyX6 tyX6_ok nmX6 hown hE.1 hP hD hS 0 rfl rfl 3 (by decide) (ht _ m_231) (fun _ h9 => h9) rfl hin rfl (by decide +kernel) rfl rfl (Nat.le_of_ble_eq_true rfl) dX6_init_30 (fun H locs hP hD hS => ?_)
  have hP : va_P D vwCl ([(h0, .inr (6, [.int 3, .ref q12, .ref q20, .ref q28, .null])), (q12, .inl (ca 0, 10, .inl (fun _ => 0))), (q20, .inl (ca 0, 10, .inl (fun _ => 0))), (q28, .inl (ca 0, 10, .inl (fun _ => 0)))]) H := hP
  have hD : va_D A ([(h0, .inr (6, [.int 3, .ref q12, .ref q20, .ref q28, .null])), (q12, .inl (ca 0, 10, .inl (fun _ => 0))), (q20, .inl (ca 0, 10, .inl (fun _ => 0))), (q28, .inl (ca 0, 10, .inl (fun _ => 0)))]) := hD
  refine lv_aload_n hx hb dX6_init_33 rfl (lv_at hl 0 rfl) ?_
  refine lv_bipush (v := 60) hx hb dX6_init_34 (by decide) ?_
  refine i_newa hx hb (ht _ m_80) hE hP hD hS hA 60 (by decide) (by decide) (by decide) 4 90 (Nat.le_of_ble_eq_true rfl) (Nat.le_of_ble_eq_true rfl) ⟨(Nat.le_of_ble_eq_true rfl), (Nat.le_of_ble_eq_true rfl)⟩ dX6_init_36 (fun q36 H hP hD hS => ?_)
  have hP : va_P D vwCl ([(h0, .inr (6, [.int 3, .ref q12, .ref q20, .ref q28, .null])), (q12, .inl (ca 0, 10, .inl (fun _ => 0))), (q20, .inl (ca 0, 10, .inl (fun _ => 0))), (q28, .inl (ca 0, 10, .inl (fun _ => 0))), (q36, .inl (ca 0, 60, .inl (fun _ => 0)))]) H := hP
  have hD : va_D A ([(h0, .inr (6, [.int 3, .ref q12, .ref q20, .ref q28, .null])), (q12, .inl (ca 0, 10, .inl (fun _ => 0))), (q20, .inl (ca 0, 10, .inl (fun _ => 0))), (q28, .inl (ca 0, 10, .inl (fun _ => 0))), (q36, .inl (ca 0, 60, .inl (fun _ => 0)))]) := hD
  refine va_putF (D := D) (ci := 6) (v := .ref q36) (ty := (.array .int)) (C := RX6) (T := TX6) (N := 5) hx hb ht uX6 tyX6 tyX6_ok nmX6 hown hE.1 hP hD hS 0 rfl rfl 4 (by decide) (ht _ m_233) (fun _ h9 => h9) rfl hin rfl (by decide +kernel) rfl rfl (Nat.le_of_ble_eq_true rfl) dX6_init_38 (fun H locs hP hD hS => ?_)
  have hP : va_P D vwCl ([(h0, .inr (6, [.int 3, .ref q12, .ref q20, .ref q28, .ref q36])), (q12, .inl (ca 0, 10, .inl (fun _ => 0))), (q20, .inl (ca 0, 10, .inl (fun _ => 0))), (q28, .inl (ca 0, 10, .inl (fun _ => 0))), (q36, .inl (ca 0, 60, .inl (fun _ => 0)))]) H := hP
  have hD : va_D A ([(h0, .inr (6, [.int 3, .ref q12, .ref q20, .ref q28, .ref q36])), (q12, .inl (ca 0, 10, .inl (fun _ => 0))), (q20, .inl (ca 0, 10, .inl (fun _ => 0))), (q28, .inl (ca 0, 10, .inl (fun _ => 0))), (q36, .inl (ca 0, 60, .inl (fun _ => 0)))]) := hD
  exact i_ret (w := wX6 ca) (h0 := h0) (fun k => ([h0, q12, q20, q28, q36] : List Nat).getD k 0) hx hb hr hlk (Nat.le_of_ble_eq_true rfl) (Nat.le_of_ble_eq_true rfl) ⟨(Nat.le_of_ble_eq_true rfl), (Nat.le_of_ble_eq_true rfl)⟩ hP hD hS dX6_init_41
set_option maxHeartbeats 8000000 in
set_option maxRecDepth 100000 in
theorem i_X8 (l : Launch) (D : va_G) (ca : Nat → ClassId) : iC l D ca yX8_init cX8_init 1 { frames := 1, cells := 1, slots := 60, locals := 12 } 8 [.int 0, .int 0, .null] [] (wX8 ca) := by
  refine iC_of (by decide) rfl (fun h0 => Nat.le_of_ble_eq_true rfl) ?_
  intro p e s m below meth c h0 A hx hb hr ht hown hlk hml hin hE hA hP hD ls hl
  have hS : va_S A s.heap s.heap [] := va_S.rf
  have hl : lv_has ls 1 [(0, .ref h0)] := hl
  refine lv_aload_n hx hb dX8_init_0 rfl (lv_at hl 0 rfl) ?_
  refine W.objInit hx hb hown (ht _ m_315) (ht _ m_52) (ht _ m_53) rfl (by rw [hml]; exact hl.1) rfl dX8_init_1 (Nat.le_of_ble_eq_true rfl) (Nat.le_of_ble_eq_true rfl) ?_
  refine W.eq (g2 := F0 m 4 ls []) rfl ?_
  refine lv_aload_n hx hb dX8_init_4 rfl (lv_at hl 0 rfl) ?_
  refine lv_bipush (v := 60) hx hb dX8_init_5 (by decide) ?_
  refine i_newa hx hb (ht _ m_80) hE hP hD hS hA 60 (by decide) (by decide) (by decide) 1 60 (Nat.le_of_ble_eq_true rfl) (Nat.le_of_ble_eq_true rfl) ⟨(Nat.le_of_ble_eq_true rfl), (Nat.le_of_ble_eq_true rfl)⟩ dX8_init_7 (fun q7 H hP hD hS => ?_)
  have hP : va_P D vwCl ([(h0, .inr (8, [.int 0, .int 0, .null])), (q7, .inl (ca 0, 60, .inl (fun _ => 0)))]) H := hP
  have hD : va_D A ([(h0, .inr (8, [.int 0, .int 0, .null])), (q7, .inl (ca 0, 60, .inl (fun _ => 0)))]) := hD
  refine va_putF (D := D) (ci := 8) (v := .ref q7) (ty := (.array .int)) (C := RX8) (T := TX8) (N := 3) hx hb ht uX8 tyX8 tyX8_ok nmX8 hown hE.1 hP hD hS 0 rfl rfl 2 (by decide) (ht _ m_321) (fun _ h9 => h9) rfl hin rfl (by decide +kernel) rfl rfl (Nat.le_of_ble_eq_true rfl) dX8_init_9 (fun H locs hP hD hS => ?_)
  have hP : va_P D vwCl ([(h0, .inr (8, [.int 0, .int 0, .ref q7])), (q7, .inl (ca 0, 60, .inl (fun _ => 0)))]) H := hP
  have hD : va_D A ([(h0, .inr (8, [.int 0, .int 0, .ref q7])), (q7, .inl (ca 0, 60, .inl (fun _ => 0)))]) := hD
  exact i_ret (w := wX8 ca) (h0 := h0) (fun k => ([h0, q7] : List Nat).getD k 0) hx hb hr hlk (Nat.le_of_ble_eq_true rfl) (Nat.le_of_ble_eq_true rfl) ⟨(Nat.le_of_ble_eq_true rfl), (Nat.le_of_ble_eq_true rfl)⟩ hP hD hS dX8_init_12
set_option maxHeartbeats 8000000 in
set_option maxRecDepth 100000 in
theorem i_X7 (l : Launch) (D : va_G) (ca : Nat → ClassId) (bk : Nat) : iC l D ca yX7_init cX7_init 2 { frames := 1, cells := 5, slots := 62, locals := 12 } 7 [.null, .null, .null, .null, .null, .null, .int 0, .int 0] [.ref bk] (wX7 ca bk) := by
  refine iC_of (by decide) rfl (fun h0 => Nat.le_of_ble_eq_true rfl) ?_
  intro p e s m below meth c h0 A hx hb hr ht hown hlk hml hin hE hA hP hD ls hl
  have hS : va_S A s.heap s.heap [] := va_S.rf
  have hl : lv_has ls 2 [(0, .ref h0), (1, .ref bk)] := hl
  refine lv_aload_n hx hb dX7_init_0 rfl (lv_at hl 0 rfl) ?_
  refine W.objInit hx hb hown (ht _ m_283) (ht _ m_52) (ht _ m_53) rfl (by rw [hml]; exact hl.1) rfl dX7_init_1 (Nat.le_of_ble_eq_true rfl) (Nat.le_of_ble_eq_true rfl) ?_
  refine W.eq (g2 := F0 m 4 ls []) rfl ?_
  refine lv_aload_n hx hb dX7_init_4 rfl (lv_at hl 0 rfl) ?_
  refine lv_bipush (v := 24) hx hb dX7_init_5 (by decide) ?_
  refine i_newa hx hb (ht _ m_80) hE hP hD hS hA 24 (by decide) (by decide) (by decide) 1 24 (Nat.le_of_ble_eq_true rfl) (Nat.le_of_ble_eq_true rfl) ⟨(Nat.le_of_ble_eq_true rfl), (Nat.le_of_ble_eq_true rfl)⟩ dX7_init_7 (fun q7 H hP hD hS => ?_)
  have hP : va_P D vwCl ([(h0, .inr (7, [.null, .null, .null, .null, .null, .null, .int 0, .int 0])), (q7, .inl (ca 0, 24, .inl (fun _ => 0)))]) H := hP
  have hD : va_D A ([(h0, .inr (7, [.null, .null, .null, .null, .null, .null, .int 0, .int 0])), (q7, .inl (ca 0, 24, .inl (fun _ => 0)))]) := hD
  refine va_putF (D := D) (ci := 7) (v := .ref q7) (ty := (.array .int)) (C := RX7) (T := TX7) (N := 8) hx hb ht uX7 tyX7 tyX7_ok nmX7 hown hE.1 hP hD hS 0 rfl rfl 1 (by decide) (ht _ m_285) (fun _ h9 => h9) rfl hin rfl (by decide +kernel) rfl rfl (Nat.le_of_ble_eq_true rfl) dX7_init_9 (fun H locs hP hD hS => ?_)
  have hP : va_P D vwCl ([(h0, .inr (7, [.null, .ref q7, .null, .null, .null, .null, .int 0, .int 0])), (q7, .inl (ca 0, 24, .inl (fun _ => 0)))]) H := hP
  have hD : va_D A ([(h0, .inr (7, [.null, .ref q7, .null, .null, .null, .null, .int 0, .int 0])), (q7, .inl (ca 0, 24, .inl (fun _ => 0)))]) := hD
  refine lv_aload_n hx hb dX7_init_12 rfl (lv_at hl 0 rfl) ?_
  refine lv_bipush (v := 10) hx hb dX7_init_13 (by decide) ?_
  refine i_newa hx hb (ht _ m_80) hE hP hD hS hA 10 (by decide) (by decide) (by decide) 2 34 (Nat.le_of_ble_eq_true rfl) (Nat.le_of_ble_eq_true rfl) ⟨(Nat.le_of_ble_eq_true rfl), (Nat.le_of_ble_eq_true rfl)⟩ dX7_init_15 (fun q15 H hP hD hS => ?_)
  have hP : va_P D vwCl ([(h0, .inr (7, [.null, .ref q7, .null, .null, .null, .null, .int 0, .int 0])), (q7, .inl (ca 0, 24, .inl (fun _ => 0))), (q15, .inl (ca 0, 10, .inl (fun _ => 0)))]) H := hP
  have hD : va_D A ([(h0, .inr (7, [.null, .ref q7, .null, .null, .null, .null, .int 0, .int 0])), (q7, .inl (ca 0, 24, .inl (fun _ => 0))), (q15, .inl (ca 0, 10, .inl (fun _ => 0)))]) := hD
  refine va_putF (D := D) (ci := 7) (v := .ref q15) (ty := (.array .int)) (C := RX7) (T := TX7) (N := 8) hx hb ht uX7 tyX7 tyX7_ok nmX7 hown hE.1 hP hD hS 0 rfl rfl 2 (by decide) (ht _ m_286) (fun _ h9 => h9) rfl hin rfl (by decide +kernel) rfl rfl (Nat.le_of_ble_eq_true rfl) dX7_init_17 (fun H locs hP hD hS => ?_)
  have hP : va_P D vwCl ([(h0, .inr (7, [.null, .ref q7, .ref q15, .null, .null, .null, .int 0, .int 0])), (q7, .inl (ca 0, 24, .inl (fun _ => 0))), (q15, .inl (ca 0, 10, .inl (fun _ => 0)))]) H := hP
  have hD : va_D A ([(h0, .inr (7, [.null, .ref q7, .ref q15, .null, .null, .null, .int 0, .int 0])), (q7, .inl (ca 0, 24, .inl (fun _ => 0))), (q15, .inl (ca 0, 10, .inl (fun _ => 0)))]) := hD
  refine lv_aload_n hx hb dX7_init_20 rfl (lv_at hl 0 rfl) ?_
  refine lv_bipush (v := 10) hx hb dX7_init_21 (by decide) ?_
  refine i_newa hx hb (ht _ m_80) hE hP hD hS hA 10 (by decide) (by decide) (by decide) 3 44 (Nat.le_of_ble_eq_true rfl) (Nat.le_of_ble_eq_true rfl) ⟨(Nat.le_of_ble_eq_true rfl), (Nat.le_of_ble_eq_true rfl)⟩ dX7_init_23 (fun q23 H hP hD hS => ?_)
  have hP : va_P D vwCl ([(h0, .inr (7, [.null, .ref q7, .ref q15, .null, .null, .null, .int 0, .int 0])), (q7, .inl (ca 0, 24, .inl (fun _ => 0))), (q15, .inl (ca 0, 10, .inl (fun _ => 0))), (q23, .inl (ca 0, 10, .inl (fun _ => 0)))]) H := hP
  have hD : va_D A ([(h0, .inr (7, [.null, .ref q7, .ref q15, .null, .null, .null, .int 0, .int 0])), (q7, .inl (ca 0, 24, .inl (fun _ => 0))), (q15, .inl (ca 0, 10, .inl (fun _ => 0))), (q23, .inl (ca 0, 10, .inl (fun _ => 0)))]) := hD
  refine va_putF (D := D) (ci := 7) (v := .ref q23) (ty := (.array .int)) (C := RX7) (T := TX7) (N := 8) hx hb ht uX7 tyX7 tyX7_ok nmX7 hown hE.1 hP hD hS 0 rfl rfl 3 (by decide) (ht _ m_287) (fun _ h9 => h9) rfl hin rfl (by decide +kernel) rfl rfl (Nat.le_of_ble_eq_true rfl) dX7_init_25 (fun H locs hP hD hS => ?_)
  have hP : va_P D vwCl ([(h0, .inr (7, [.null, .ref q7, .ref q15, .ref q23, .null, .null, .int 0, .int 0])), (q7, .inl (ca 0, 24, .inl (fun _ => 0))), (q15, .inl (ca 0, 10, .inl (fun _ => 0))), (q23, .inl (ca 0, 10, .inl (fun _ => 0)))]) H := hP
  have hD : va_D A ([(h0, .inr (7, [.null, .ref q7, .ref q15, .ref q23, .null, .null, .int 0, .int 0])), (q7, .inl (ca 0, 24, .inl (fun _ => 0))), (q15, .inl (ca 0, 10, .inl (fun _ => 0))), (q23, .inl (ca 0, 10, .inl (fun _ => 0)))]) := hD
  refine lv_aload_n hx hb dX7_init_28 rfl (lv_at hl 0 rfl) ?_
  refine lv_bipush (v := 9) hx hb dX7_init_29 (by decide) ?_
  refine i_newa hx hb (ht _ m_80) hE hP hD hS hA 9 (by decide) (by decide) (by decide) 4 53 (Nat.le_of_ble_eq_true rfl) (Nat.le_of_ble_eq_true rfl) ⟨(Nat.le_of_ble_eq_true rfl), (Nat.le_of_ble_eq_true rfl)⟩ dX7_init_31 (fun q31 H hP hD hS => ?_)
  have hP : va_P D vwCl ([(h0, .inr (7, [.null, .ref q7, .ref q15, .ref q23, .null, .null, .int 0, .int 0])), (q7, .inl (ca 0, 24, .inl (fun _ => 0))), (q15, .inl (ca 0, 10, .inl (fun _ => 0))), (q23, .inl (ca 0, 10, .inl (fun _ => 0))), (q31, .inl (ca 0, 9, .inl (fun _ => 0)))]) H := hP
  have hD : va_D A ([(h0, .inr (7, [.null, .ref q7, .ref q15, .ref q23, .null, .null, .int 0, .int 0])), (q7, .inl (ca 0, 24, .inl (fun _ => 0))), (q15, .inl (ca 0, 10, .inl (fun _ => 0))), (q23, .inl (ca 0, 10, .inl (fun _ => 0))), (q31, .inl (ca 0, 9, .inl (fun _ => 0)))]) := hD
  refine va_putF (D := D) (ci := 7) (v := .ref q31) (ty := (.array .int)) (C := RX7) (T := TX7) (N := 8) hx hb ht uX7 tyX7 tyX7_ok nmX7 hown hE.1 hP hD hS 0 rfl rfl 4 (by decide) (ht _ m_288) (fun _ h9 => h9) rfl hin rfl (by decide +kernel) rfl rfl (Nat.le_of_ble_eq_true rfl) dX7_init_33 (fun H locs hP hD hS => ?_)
  have hP : va_P D vwCl ([(h0, .inr (7, [.null, .ref q7, .ref q15, .ref q23, .ref q31, .null, .int 0, .int 0])), (q7, .inl (ca 0, 24, .inl (fun _ => 0))), (q15, .inl (ca 0, 10, .inl (fun _ => 0))), (q23, .inl (ca 0, 10, .inl (fun _ => 0))), (q31, .inl (ca 0, 9, .inl (fun _ => 0)))]) H := hP
  have hD : va_D A ([(h0, .inr (7, [.null, .ref q7, .ref q15, .ref q23, .ref q31, .null, .int 0, .int 0])), (q7, .inl (ca 0, 24, .inl (fun _ => 0))), (q15, .inl (ca 0, 10, .inl (fun _ => 0))), (q23, .inl (ca 0, 10, .inl (fun _ => 0))), (q31, .inl (ca 0, 9, .inl (fun _ => 0)))]) := hD
  refine lv_aload_n hx hb dX7_init_36 rfl (lv_at hl 0 rfl) ?_
  refine lv_bipush (v := 9) hx hb dX7_init_37 (by decide) ?_
  refine i_newa hx hb (ht _ m_80) hE hP hD hS hA 9 (by decide) (by decide) (by decide) 5 62 (Nat.le_of_ble_eq_true rfl) (Nat.le_of_ble_eq_true rfl) ⟨(Nat.le_of_ble_eq_true rfl), (Nat.le_of_ble_eq_true rfl)⟩ dX7_init_39 (fun q39 H hP hD hS => ?_)
  have hP : va_P D vwCl ([(h0, .inr (7, [.null, .ref q7, .ref q15, .ref q23, .ref q31, .null, .int 0, .int 0])), (q7, .inl (ca 0, 24, .inl (fun _ => 0))), (q15, .inl (ca 0, 10, .inl (fun _ => 0))), (q23, .inl (ca 0, 10, .inl (fun _ => 0))), (q31, .inl (ca 0, 9, .inl (fun _ => 0))), (q39, .inl (ca 0, 9, .inl (fun _ => 0)))]) H := hP
  have hD : va_D A ([(h0, .inr (7, [.null, .ref q7, .ref q15, .ref q23, .ref q31, .null, .int 0, .int 0])), (q7, .inl (ca 0, 24, .inl (fun _ => 0))), (q15, .inl (ca 0, 10, .inl (fun _ => 0))), (q23, .inl (ca 0, 10, .inl (fun _ => 0))), (q31, .inl (ca 0, 9, .inl (fun _ => 0))), (q39, .inl (ca 0, 9, .inl (fun _ => 0)))]) := hD
  refine va_putF (D := D) (ci := 7) (v := .ref q39) (ty := (.array .int)) (C := RX7) (T := TX7) (N := 8) hx hb ht uX7 tyX7 tyX7_ok nmX7 hown hE.1 hP hD hS 0 rfl rfl 5 (by decide) (ht _ m_289) (fun _ h9 => h9) rfl hin rfl (by decide +kernel) rfl rfl (Nat.le_of_ble_eq_true rfl) dX7_init_41 (fun H locs hP hD hS => ?_)
  have hP : va_P D vwCl ([(h0, .inr (7, [.null, .ref q7, .ref q15, .ref q23, .ref q31, .ref q39, .int 0, .int 0])), (q7, .inl (ca 0, 24, .inl (fun _ => 0))), (q15, .inl (ca 0, 10, .inl (fun _ => 0))), (q23, .inl (ca 0, 10, .inl (fun _ => 0))), (q31, .inl (ca 0, 9, .inl (fun _ => 0))), (q39, .inl (ca 0, 9, .inl (fun _ => 0)))]) H := hP
  have hD : va_D A ([(h0, .inr (7, [.null, .ref q7, .ref q15, .ref q23, .ref q31, .ref q39, .int 0, .int 0])), (q7, .inl (ca 0, 24, .inl (fun _ => 0))), (q15, .inl (ca 0, 10, .inl (fun _ => 0))), (q23, .inl (ca 0, 10, .inl (fun _ => 0))), (q31, .inl (ca 0, 9, .inl (fun _ => 0))), (q39, .inl (ca 0, 9, .inl (fun _ => 0)))]) := hD
  refine lv_aload_n hx hb dX7_init_44 rfl (lv_at hl 0 rfl) ?_
  refine lv_aload_n hx hb dX7_init_45 rfl (lv_at hl 1 rfl) ?_
  refine va_putF (D := D) (ci := 7) (v := .ref bk) (ty := (.object "PoorDesk$Book")) (C := RX7) (T := TX7) (N := 8) hx hb ht uX7 tyX7 tyX7_ok nmX7 hown hE.1 hP hD hS 0 rfl rfl 0 (by decide) (ht _ m_284) (fun _ h9 => h9) rfl hin rfl (by decide +kernel) rfl rfl (Nat.le_of_ble_eq_true rfl) dX7_init_46 (fun H locs hP hD hS => ?_)
  have hP : va_P D vwCl ([(h0, .inr (7, [.ref bk, .ref q7, .ref q15, .ref q23, .ref q31, .ref q39, .int 0, .int 0])), (q7, .inl (ca 0, 24, .inl (fun _ => 0))), (q15, .inl (ca 0, 10, .inl (fun _ => 0))), (q23, .inl (ca 0, 10, .inl (fun _ => 0))), (q31, .inl (ca 0, 9, .inl (fun _ => 0))), (q39, .inl (ca 0, 9, .inl (fun _ => 0)))]) H := hP
  have hD : va_D A ([(h0, .inr (7, [.ref bk, .ref q7, .ref q15, .ref q23, .ref q31, .ref q39, .int 0, .int 0])), (q7, .inl (ca 0, 24, .inl (fun _ => 0))), (q15, .inl (ca 0, 10, .inl (fun _ => 0))), (q23, .inl (ca 0, 10, .inl (fun _ => 0))), (q31, .inl (ca 0, 9, .inl (fun _ => 0))), (q39, .inl (ca 0, 9, .inl (fun _ => 0)))]) := hD
  exact i_ret (w := wX7 ca bk) (h0 := h0) (fun k => ([h0, q7, q15, q23, q31, q39] : List Nat).getD k 0) hx hb hr hlk (Nat.le_of_ble_eq_true rfl) (Nat.le_of_ble_eq_true rfl) ⟨(Nat.le_of_ble_eq_true rfl), (Nat.le_of_ble_eq_true rfl)⟩ hP hD hS dX7_init_49
set_option maxHeartbeats 8000000 in
set_option maxRecDepth 100000 in
theorem i_X10 (l : Launch) (D : va_G) (ca : Nat → ClassId) : iC l D ca yX10_init cX10_init 1 { frames := 1, cells := 9, slots := 1680, locals := 12 } 10 [.null, .null, .int 0, .int 0, .null, .null, .null, .int 0, .null, .int 0, .null, .null, .null] [] (wX10 ca) := by
  refine iC_of (by decide) rfl (fun h0 => Nat.le_of_ble_eq_true rfl) ?_
  intro p e s m below meth c h0 A hx hb hr ht hown hlk hml hin hE hA hP hD ls hl
  have hS : va_S A s.heap s.heap [] := va_S.rf
  have hl : lv_has ls 1 [(0, .ref h0)] := hl
  refine lv_aload_n hx hb dX10_init_0 rfl (lv_at hl 0 rfl) ?_
  refine W.objInit hx hb hown (ht _ m_789) (ht _ m_52) (ht _ m_53) rfl (by rw [hml]; exact hl.1) rfl dX10_init_1 (Nat.le_of_ble_eq_true rfl) (Nat.le_of_ble_eq_true rfl) ?_
  refine W.eq (g2 := F0 m 4 ls []) rfl ?_
  refine lv_aload_n hx hb dX10_init_4 rfl (lv_at hl 0 rfl) ?_
  refine lv_sipush (v := 549) hx hb dX10_init_5 (by decide) ?_
  refine i_newa hx hb (ht _ m_80) hE hP hD hS hA 549 (by decide) (by decide) (by decide) 1 549 (Nat.le_of_ble_eq_true rfl) (Nat.le_of_ble_eq_true rfl) ⟨(Nat.le_of_ble_eq_true rfl), (Nat.le_of_ble_eq_true rfl)⟩ dX10_init_8 (fun q8 H hP hD hS => ?_)
  have hP : va_P D vwCl ([(h0, .inr (10, [.null, .null, .int 0, .int 0, .null, .null, .null, .int 0, .null, .int 0, .null, .null, .null])), (q8, .inl (ca 0, 549, .inl (fun _ => 0)))]) H := hP
  have hD : va_D A ([(h0, .inr (10, [.null, .null, .int 0, .int 0, .null, .null, .null, .int 0, .null, .int 0, .null, .null, .null])), (q8, .inl (ca 0, 549, .inl (fun _ => 0)))]) := hD
  refine va_putF (D := D) (ci := 10) (v := .ref q8) (ty := (.array .int)) (C := RX10) (T := TX10) (N := 13) hx hb ht uX10 tyX10 tyX10_ok nmX10 hown hE.1 hP hD hS 0 rfl rfl 0 (by decide) (ht _ m_790) (fun _ h9 => h9) rfl hin rfl (by decide +kernel) rfl rfl (Nat.le_of_ble_eq_true rfl) dX10_init_10 (fun H locs hP hD hS => ?_)
  have hP : va_P D vwCl ([(h0, .inr (10, [.ref q8, .null, .int 0, .int 0, .null, .null, .null, .int 0, .null, .int 0, .null, .null, .null])), (q8, .inl (ca 0, 549, .inl (fun _ => 0)))]) H := hP
  have hD : va_D A ([(h0, .inr (10, [.ref q8, .null, .int 0, .int 0, .null, .null, .null, .int 0, .null, .int 0, .null, .null, .null])), (q8, .inl (ca 0, 549, .inl (fun _ => 0)))]) := hD
  refine lv_aload_n hx hb dX10_init_13 rfl (lv_at hl 0 rfl) ?_
  refine lv_sipush (v := 549) hx hb dX10_init_14 (by decide) ?_
  refine i_newa hx hb (ht _ m_80) hE hP hD hS hA 549 (by decide) (by decide) (by decide) 2 1098 (Nat.le_of_ble_eq_true rfl) (Nat.le_of_ble_eq_true rfl) ⟨(Nat.le_of_ble_eq_true rfl), (Nat.le_of_ble_eq_true rfl)⟩ dX10_init_17 (fun q17 H hP hD hS => ?_)
  have hP : va_P D vwCl ([(h0, .inr (10, [.ref q8, .null, .int 0, .int 0, .null, .null, .null, .int 0, .null, .int 0, .null, .null, .null])), (q8, .inl (ca 0, 549, .inl (fun _ => 0))), (q17, .inl (ca 0, 549, .inl (fun _ => 0)))]) H := hP
  have hD : va_D A ([(h0, .inr (10, [.ref q8, .null, .int 0, .int 0, .null, .null, .null, .int 0, .null, .int 0, .null, .null, .null])), (q8, .inl (ca 0, 549, .inl (fun _ => 0))), (q17, .inl (ca 0, 549, .inl (fun _ => 0)))]) := hD
  refine va_putF (D := D) (ci := 10) (v := .ref q17) (ty := (.array .int)) (C := RX10) (T := TX10) (N := 13) hx hb ht uX10 tyX10 tyX10_ok nmX10 hown hE.1 hP hD hS 0 rfl rfl 1 (by decide) (ht _ m_791) (fun _ h9 => h9) rfl hin rfl (by decide +kernel) rfl rfl (Nat.le_of_ble_eq_true rfl) dX10_init_19 (fun H locs hP hD hS => ?_)
  have hP : va_P D vwCl ([(h0, .inr (10, [.ref q8, .ref q17, .int 0, .int 0, .null, .null, .null, .int 0, .null, .int 0, .null, .null, .null])), (q8, .inl (ca 0, 549, .inl (fun _ => 0))), (q17, .inl (ca 0, 549, .inl (fun _ => 0)))]) H := hP
  have hD : va_D A ([(h0, .inr (10, [.ref q8, .ref q17, .int 0, .int 0, .null, .null, .null, .int 0, .null, .int 0, .null, .null, .null])), (q8, .inl (ca 0, 549, .inl (fun _ => 0))), (q17, .inl (ca 0, 549, .inl (fun _ => 0)))]) := hD
  refine lv_aload_n hx hb dX10_init_22 rfl (lv_at hl 0 rfl) ?_
  refine lv_iconst (v := 4) hx hb dX10_init_23 (by decide) ?_
  refine i_newa hx hb (ht _ m_80) hE hP hD hS hA 4 (by decide) (by decide) (by decide) 3 1102 (Nat.le_of_ble_eq_true rfl) (Nat.le_of_ble_eq_true rfl) ⟨(Nat.le_of_ble_eq_true rfl), (Nat.le_of_ble_eq_true rfl)⟩ dX10_init_24 (fun q24 H hP hD hS => ?_)
  have hP : va_P D vwCl ([(h0, .inr (10, [.ref q8, .ref q17, .int 0, .int 0, .null, .null, .null, .int 0, .null, .int 0, .null, .null, .null])), (q8, .inl (ca 0, 549, .inl (fun _ => 0))), (q17, .inl (ca 0, 549, .inl (fun _ => 0))), (q24, .inl (ca 0, 4, .inl (fun _ => 0)))]) H := hP
  have hD : va_D A ([(h0, .inr (10, [.ref q8, .ref q17, .int 0, .int 0, .null, .null, .null, .int 0, .null, .int 0, .null, .null, .null])), (q8, .inl (ca 0, 549, .inl (fun _ => 0))), (q17, .inl (ca 0, 549, .inl (fun _ => 0))), (q24, .inl (ca 0, 4, .inl (fun _ => 0)))]) := hD
  refine va_putF (D := D) (ci := 10) (v := .ref q24) (ty := (.array .int)) (C := RX10) (T := TX10) (N := 13) hx hb ht uX10 tyX10 tyX10_ok nmX10 hown hE.1 hP hD hS 0 rfl rfl 4 (by decide) (ht _ m_794) (fun _ h9 => h9) rfl hin rfl (by decide +kernel) rfl rfl (Nat.le_of_ble_eq_true rfl) dX10_init_26 (fun H locs hP hD hS => ?_)
  have hP : va_P D vwCl ([(h0, .inr (10, [.ref q8, .ref q17, .int 0, .int 0, .ref q24, .null, .null, .int 0, .null, .int 0, .null, .null, .null])), (q8, .inl (ca 0, 549, .inl (fun _ => 0))), (q17, .inl (ca 0, 549, .inl (fun _ => 0))), (q24, .inl (ca 0, 4, .inl (fun _ => 0)))]) H := hP
  have hD : va_D A ([(h0, .inr (10, [.ref q8, .ref q17, .int 0, .int 0, .ref q24, .null, .null, .int 0, .null, .int 0, .null, .null, .null])), (q8, .inl (ca 0, 549, .inl (fun _ => 0))), (q17, .inl (ca 0, 549, .inl (fun _ => 0))), (q24, .inl (ca 0, 4, .inl (fun _ => 0)))]) := hD
  refine lv_aload_n hx hb dX10_init_29 rfl (lv_at hl 0 rfl) ?_
  refine lv_iconst (v := 4) hx hb dX10_init_30 (by decide) ?_
  refine i_newa hx hb (ht _ m_80) hE hP hD hS hA 4 (by decide) (by decide) (by decide) 4 1106 (Nat.le_of_ble_eq_true rfl) (Nat.le_of_ble_eq_true rfl) ⟨(Nat.le_of_ble_eq_true rfl), (Nat.le_of_ble_eq_true rfl)⟩ dX10_init_31 (fun q31 H hP hD hS => ?_)
  have hP : va_P D vwCl ([(h0, .inr (10, [.ref q8, .ref q17, .int 0, .int 0, .ref q24, .null, .null, .int 0, .null, .int 0, .null, .null, .null])), (q8, .inl (ca 0, 549, .inl (fun _ => 0))), (q17, .inl (ca 0, 549, .inl (fun _ => 0))), (q24, .inl (ca 0, 4, .inl (fun _ => 0))), (q31, .inl (ca 0, 4, .inl (fun _ => 0)))]) H := hP
  have hD : va_D A ([(h0, .inr (10, [.ref q8, .ref q17, .int 0, .int 0, .ref q24, .null, .null, .int 0, .null, .int 0, .null, .null, .null])), (q8, .inl (ca 0, 549, .inl (fun _ => 0))), (q17, .inl (ca 0, 549, .inl (fun _ => 0))), (q24, .inl (ca 0, 4, .inl (fun _ => 0))), (q31, .inl (ca 0, 4, .inl (fun _ => 0)))]) := hD
  refine va_putF (D := D) (ci := 10) (v := .ref q31) (ty := (.array .int)) (C := RX10) (T := TX10) (N := 13) hx hb ht uX10 tyX10 tyX10_ok nmX10 hown hE.1 hP hD hS 0 rfl rfl 5 (by decide) (ht _ m_795) (fun _ h9 => h9) rfl hin rfl (by decide +kernel) rfl rfl (Nat.le_of_ble_eq_true rfl) dX10_init_33 (fun H locs hP hD hS => ?_)
  have hP : va_P D vwCl ([(h0, .inr (10, [.ref q8, .ref q17, .int 0, .int 0, .ref q24, .ref q31, .null, .int 0, .null, .int 0, .null, .null, .null])), (q8, .inl (ca 0, 549, .inl (fun _ => 0))), (q17, .inl (ca 0, 549, .inl (fun _ => 0))), (q24, .inl (ca 0, 4, .inl (fun _ => 0))), (q31, .inl (ca 0, 4, .inl (fun _ => 0)))]) H := hP
  have hD : va_D A ([(h0, .inr (10, [.ref q8, .ref q17, .int 0, .int 0, .ref q24, .ref q31, .null, .int 0, .null, .int 0, .null, .null, .null])), (q8, .inl (ca 0, 549, .inl (fun _ => 0))), (q17, .inl (ca 0, 549, .inl (fun _ => 0))), (q24, .inl (ca 0, 4, .inl (fun _ => 0))), (q31, .inl (ca 0, 4, .inl (fun _ => 0)))]) := hD
  refine lv_aload_n hx hb dX10_init_36 rfl (lv_at hl 0 rfl) ?_
  refine lv_sipush (v := 240) hx hb dX10_init_37 (by decide) ?_
  refine i_newa hx hb (ht _ m_80) hE hP hD hS hA 240 (by decide) (by decide) (by decide) 5 1346 (Nat.le_of_ble_eq_true rfl) (Nat.le_of_ble_eq_true rfl) ⟨(Nat.le_of_ble_eq_true rfl), (Nat.le_of_ble_eq_true rfl)⟩ dX10_init_40 (fun q40 H hP hD hS => ?_)
  have hP : va_P D vwCl ([(h0, .inr (10, [.ref q8, .ref q17, .int 0, .int 0, .ref q24, .ref q31, .null, .int 0, .null, .int 0, .null, .null, .null])), (q8, .inl (ca 0, 549, .inl (fun _ => 0))), (q17, .inl (ca 0, 549, .inl (fun _ => 0))), (q24, .inl (ca 0, 4, .inl (fun _ => 0))), (q31, .inl (ca 0, 4, .inl (fun _ => 0))), (q40, .inl (ca 0, 240, .inl (fun _ => 0)))]) H := hP
  have hD : va_D A ([(h0, .inr (10, [.ref q8, .ref q17, .int 0, .int 0, .ref q24, .ref q31, .null, .int 0, .null, .int 0, .null, .null, .null])), (q8, .inl (ca 0, 549, .inl (fun _ => 0))), (q17, .inl (ca 0, 549, .inl (fun _ => 0))), (q24, .inl (ca 0, 4, .inl (fun _ => 0))), (q31, .inl (ca 0, 4, .inl (fun _ => 0))), (q40, .inl (ca 0, 240, .inl (fun _ => 0)))]) := hD
  refine va_putF (D := D) (ci := 10) (v := .ref q40) (ty := (.array .int)) (C := RX10) (T := TX10) (N := 13) hx hb ht uX10 tyX10 tyX10_ok nmX10 hown hE.1 hP hD hS 0 rfl rfl 6 (by decide) (ht _ m_796) (fun _ h9 => h9) rfl hin rfl (by decide +kernel) rfl rfl (Nat.le_of_ble_eq_true rfl) dX10_init_42 (fun H locs hP hD hS => ?_)
  have hP : va_P D vwCl ([(h0, .inr (10, [.ref q8, .ref q17, .int 0, .int 0, .ref q24, .ref q31, .ref q40, .int 0, .null, .int 0, .null, .null, .null])), (q8, .inl (ca 0, 549, .inl (fun _ => 0))), (q17, .inl (ca 0, 549, .inl (fun _ => 0))), (q24, .inl (ca 0, 4, .inl (fun _ => 0))), (q31, .inl (ca 0, 4, .inl (fun _ => 0))), (q40, .inl (ca 0, 240, .inl (fun _ => 0)))]) H := hP
  have hD : va_D A ([(h0, .inr (10, [.ref q8, .ref q17, .int 0, .int 0, .ref q24, .ref q31, .ref q40, .int 0, .null, .int 0, .null, .null, .null])), (q8, .inl (ca 0, 549, .inl (fun _ => 0))), (q17, .inl (ca 0, 549, .inl (fun _ => 0))), (q24, .inl (ca 0, 4, .inl (fun _ => 0))), (q31, .inl (ca 0, 4, .inl (fun _ => 0))), (q40, .inl (ca 0, 240, .inl (fun _ => 0)))]) := hD
  refine lv_aload_n hx hb dX10_init_45 rfl (lv_at hl 0 rfl) ?_
  refine lv_bipush (v := 10) hx hb dX10_init_46 (by decide) ?_
  refine i_newa hx hb (ht _ m_80) hE hP hD hS hA 10 (by decide) (by decide) (by decide) 6 1356 (Nat.le_of_ble_eq_true rfl) (Nat.le_of_ble_eq_true rfl) ⟨(Nat.le_of_ble_eq_true rfl), (Nat.le_of_ble_eq_true rfl)⟩ dX10_init_48 (fun q48 H hP hD hS => ?_)
  have hP : va_P D vwCl ([(h0, .inr (10, [.ref q8, .ref q17, .int 0, .int 0, .ref q24, .ref q31, .ref q40, .int 0, .null, .int 0, .null, .null, .null])), (q8, .inl (ca 0, 549, .inl (fun _ => 0))), (q17, .inl (ca 0, 549, .inl (fun _ => 0))), (q24, .inl (ca 0, 4, .inl (fun _ => 0))), (q31, .inl (ca 0, 4, .inl (fun _ => 0))), (q40, .inl (ca 0, 240, .inl (fun _ => 0))), (q48, .inl (ca 0, 10, .inl (fun _ => 0)))]) H := hP
  have hD : va_D A ([(h0, .inr (10, [.ref q8, .ref q17, .int 0, .int 0, .ref q24, .ref q31, .ref q40, .int 0, .null, .int 0, .null, .null, .null])), (q8, .inl (ca 0, 549, .inl (fun _ => 0))), (q17, .inl (ca 0, 549, .inl (fun _ => 0))), (q24, .inl (ca 0, 4, .inl (fun _ => 0))), (q31, .inl (ca 0, 4, .inl (fun _ => 0))), (q40, .inl (ca 0, 240, .inl (fun _ => 0))), (q48, .inl (ca 0, 10, .inl (fun _ => 0)))]) := hD
  refine va_putF (D := D) (ci := 10) (v := .ref q48) (ty := (.array .int)) (C := RX10) (T := TX10) (N := 13) hx hb ht uX10 tyX10 tyX10_ok nmX10 hown hE.1 hP hD hS 0 rfl rfl 8 (by decide) (ht _ m_798) (fun _ h9 => h9) rfl hin rfl (by decide +kernel) rfl rfl (Nat.le_of_ble_eq_true rfl) dX10_init_50 (fun H locs hP hD hS => ?_)
  have hP : va_P D vwCl ([(h0, .inr (10, [.ref q8, .ref q17, .int 0, .int 0, .ref q24, .ref q31, .ref q40, .int 0, .ref q48, .int 0, .null, .null, .null])), (q8, .inl (ca 0, 549, .inl (fun _ => 0))), (q17, .inl (ca 0, 549, .inl (fun _ => 0))), (q24, .inl (ca 0, 4, .inl (fun _ => 0))), (q31, .inl (ca 0, 4, .inl (fun _ => 0))), (q40, .inl (ca 0, 240, .inl (fun _ => 0))), (q48, .inl (ca 0, 10, .inl (fun _ => 0)))]) H := hP
  have hD : va_D A ([(h0, .inr (10, [.ref q8, .ref q17, .int 0, .int 0, .ref q24, .ref q31, .ref q40, .int 0, .ref q48, .int 0, .null, .null, .null])), (q8, .inl (ca 0, 549, .inl (fun _ => 0))), (q17, .inl (ca 0, 549, .inl (fun _ => 0))), (q24, .inl (ca 0, 4, .inl (fun _ => 0))), (q31, .inl (ca 0, 4, .inl (fun _ => 0))), (q40, .inl (ca 0, 240, .inl (fun _ => 0))), (q48, .inl (ca 0, 10, .inl (fun _ => 0)))]) := hD
  refine lv_aload_n hx hb dX10_init_53 rfl (lv_at hl 0 rfl) ?_
  refine lv_bipush (v := 8) hx hb dX10_init_54 (by decide) ?_
  refine i_newa hx hb (ht _ m_80) hE hP hD hS hA 8 (by decide) (by decide) (by decide) 7 1364 (Nat.le_of_ble_eq_true rfl) (Nat.le_of_ble_eq_true rfl) ⟨(Nat.le_of_ble_eq_true rfl), (Nat.le_of_ble_eq_true rfl)⟩ dX10_init_56 (fun q56 H hP hD hS => ?_)
  have hP : va_P D vwCl ([(h0, .inr (10, [.ref q8, .ref q17, .int 0, .int 0, .ref q24, .ref q31, .ref q40, .int 0, .ref q48, .int 0, .null, .null, .null])), (q8, .inl (ca 0, 549, .inl (fun _ => 0))), (q17, .inl (ca 0, 549, .inl (fun _ => 0))), (q24, .inl (ca 0, 4, .inl (fun _ => 0))), (q31, .inl (ca 0, 4, .inl (fun _ => 0))), (q40, .inl (ca 0, 240, .inl (fun _ => 0))), (q48, .inl (ca 0, 10, .inl (fun _ => 0))), (q56, .inl (ca 0, 8, .inl (fun _ => 0)))]) H := hP
  have hD : va_D A ([(h0, .inr (10, [.ref q8, .ref q17, .int 0, .int 0, .ref q24, .ref q31, .ref q40, .int 0, .ref q48, .int 0, .null, .null, .null])), (q8, .inl (ca 0, 549, .inl (fun _ => 0))), (q17, .inl (ca 0, 549, .inl (fun _ => 0))), (q24, .inl (ca 0, 4, .inl (fun _ => 0))), (q31, .inl (ca 0, 4, .inl (fun _ => 0))), (q40, .inl (ca 0, 240, .inl (fun _ => 0))), (q48, .inl (ca 0, 10, .inl (fun _ => 0))), (q56, .inl (ca 0, 8, .inl (fun _ => 0)))]) := hD
  refine va_putF (D := D) (ci := 10) (v := .ref q56) (ty := (.array .int)) (C := RX10) (T := TX10) (N := 13) hx hb ht uX10 tyX10 tyX10_ok nmX10 hown hE.1 hP hD hS 0 rfl rfl 10 (by decide) (ht _ m_800) (fun _ h9 => h9) rfl hin rfl (by decide +kernel) rfl rfl (Nat.le_of_ble_eq_true rfl) dX10_init_58 (fun H locs hP hD hS => ?_)
  have hP : va_P D vwCl ([(h0, .inr (10, [.ref q8, .ref q17, .int 0, .int 0, .ref q24, .ref q31, .ref q40, .int 0, .ref q48, .int 0, .ref q56, .null, .null])), (q8, .inl (ca 0, 549, .inl (fun _ => 0))), (q17, .inl (ca 0, 549, .inl (fun _ => 0))), (q24, .inl (ca 0, 4, .inl (fun _ => 0))), (q31, .inl (ca 0, 4, .inl (fun _ => 0))), (q40, .inl (ca 0, 240, .inl (fun _ => 0))), (q48, .inl (ca 0, 10, .inl (fun _ => 0))), (q56, .inl (ca 0, 8, .inl (fun _ => 0)))]) H := hP
  have hD : va_D A ([(h0, .inr (10, [.ref q8, .ref q17, .int 0, .int 0, .ref q24, .ref q31, .ref q40, .int 0, .ref q48, .int 0, .ref q56, .null, .null])), (q8, .inl (ca 0, 549, .inl (fun _ => 0))), (q17, .inl (ca 0, 549, .inl (fun _ => 0))), (q24, .inl (ca 0, 4, .inl (fun _ => 0))), (q31, .inl (ca 0, 4, .inl (fun _ => 0))), (q40, .inl (ca 0, 240, .inl (fun _ => 0))), (q48, .inl (ca 0, 10, .inl (fun _ => 0))), (q56, .inl (ca 0, 8, .inl (fun _ => 0)))]) := hD
  refine lv_aload_n hx hb dX10_init_61 rfl (lv_at hl 0 rfl) ?_
  refine lv_sipush (v := 256) hx hb dX10_init_62 (by decide) ?_
  refine i_newa hx hb (ht _ m_80) hE hP hD hS hA 256 (by decide) (by decide) (by decide) 8 1620 (Nat.le_of_ble_eq_true rfl) (Nat.le_of_ble_eq_true rfl) ⟨(Nat.le_of_ble_eq_true rfl), (Nat.le_of_ble_eq_true rfl)⟩ dX10_init_65 (fun q65 H hP hD hS => ?_)
  have hP : va_P D vwCl ([(h0, .inr (10, [.ref q8, .ref q17, .int 0, .int 0, .ref q24, .ref q31, .ref q40, .int 0, .ref q48, .int 0, .ref q56, .null, .null])), (q8, .inl (ca 0, 549, .inl (fun _ => 0))), (q17, .inl (ca 0, 549, .inl (fun _ => 0))), (q24, .inl (ca 0, 4, .inl (fun _ => 0))), (q31, .inl (ca 0, 4, .inl (fun _ => 0))), (q40, .inl (ca 0, 240, .inl (fun _ => 0))), (q48, .inl (ca 0, 10, .inl (fun _ => 0))), (q56, .inl (ca 0, 8, .inl (fun _ => 0))), (q65, .inl (ca 0, 256, .inl (fun _ => 0)))]) H := hP
  have hD : va_D A ([(h0, .inr (10, [.ref q8, .ref q17, .int 0, .int 0, .ref q24, .ref q31, .ref q40, .int 0, .ref q48, .int 0, .ref q56, .null, .null])), (q8, .inl (ca 0, 549, .inl (fun _ => 0))), (q17, .inl (ca 0, 549, .inl (fun _ => 0))), (q24, .inl (ca 0, 4, .inl (fun _ => 0))), (q31, .inl (ca 0, 4, .inl (fun _ => 0))), (q40, .inl (ca 0, 240, .inl (fun _ => 0))), (q48, .inl (ca 0, 10, .inl (fun _ => 0))), (q56, .inl (ca 0, 8, .inl (fun _ => 0))), (q65, .inl (ca 0, 256, .inl (fun _ => 0)))]) := hD
  refine va_putF (D := D) (ci := 10) (v := .ref q65) (ty := (.array .int)) (C := RX10) (T := TX10) (N := 13) hx hb ht uX10 tyX10 tyX10_ok nmX10 hown hE.1 hP hD hS 0 rfl rfl 11 (by decide) (ht _ m_801) (fun _ h9 => h9) rfl hin rfl (by decide +kernel) rfl rfl (Nat.le_of_ble_eq_true rfl) dX10_init_67 (fun H locs hP hD hS => ?_)
  have hP : va_P D vwCl ([(h0, .inr (10, [.ref q8, .ref q17, .int 0, .int 0, .ref q24, .ref q31, .ref q40, .int 0, .ref q48, .int 0, .ref q56, .ref q65, .null])), (q8, .inl (ca 0, 549, .inl (fun _ => 0))), (q17, .inl (ca 0, 549, .inl (fun _ => 0))), (q24, .inl (ca 0, 4, .inl (fun _ => 0))), (q31, .inl (ca 0, 4, .inl (fun _ => 0))), (q40, .inl (ca 0, 240, .inl (fun _ => 0))), (q48, .inl (ca 0, 10, .inl (fun _ => 0))), (q56, .inl (ca 0, 8, .inl (fun _ => 0))), (q65, .inl (ca 0, 256, .inl (fun _ => 0)))]) H := hP
  have hD : va_D A ([(h0, .inr (10, [.ref q8, .ref q17, .int 0, .int 0, .ref q24, .ref q31, .ref q40, .int 0, .ref q48, .int 0, .ref q56, .ref q65, .null])), (q8, .inl (ca 0, 549, .inl (fun _ => 0))), (q17, .inl (ca 0, 549, .inl (fun _ => 0))), (q24, .inl (ca 0, 4, .inl (fun _ => 0))), (q31, .inl (ca 0, 4, .inl (fun _ => 0))), (q40, .inl (ca 0, 240, .inl (fun _ => 0))), (q48, .inl (ca 0, 10, .inl (fun _ => 0))), (q56, .inl (ca 0, 8, .inl (fun _ => 0))), (q65, .inl (ca 0, 256, .inl (fun _ => 0)))]) := hD
  refine lv_aload_n hx hb dX10_init_70 rfl (lv_at hl 0 rfl) ?_
  refine lv_bipush (v := 60) hx hb dX10_init_71 (by decide) ?_
  refine i_newa hx hb (ht _ m_80) hE hP hD hS hA 60 (by decide) (by decide) (by decide) 9 1680 (Nat.le_of_ble_eq_true rfl) (Nat.le_of_ble_eq_true rfl) ⟨(Nat.le_of_ble_eq_true rfl), (Nat.le_of_ble_eq_true rfl)⟩ dX10_init_73 (fun q73 H hP hD hS => ?_)
  have hP : va_P D vwCl ([(h0, .inr (10, [.ref q8, .ref q17, .int 0, .int 0, .ref q24, .ref q31, .ref q40, .int 0, .ref q48, .int 0, .ref q56, .ref q65, .null])), (q8, .inl (ca 0, 549, .inl (fun _ => 0))), (q17, .inl (ca 0, 549, .inl (fun _ => 0))), (q24, .inl (ca 0, 4, .inl (fun _ => 0))), (q31, .inl (ca 0, 4, .inl (fun _ => 0))), (q40, .inl (ca 0, 240, .inl (fun _ => 0))), (q48, .inl (ca 0, 10, .inl (fun _ => 0))), (q56, .inl (ca 0, 8, .inl (fun _ => 0))), (q65, .inl (ca 0, 256, .inl (fun _ => 0))), (q73, .inl (ca 0, 60, .inl (fun _ => 0)))]) H := hP
  have hD : va_D A ([(h0, .inr (10, [.ref q8, .ref q17, .int 0, .int 0, .ref q24, .ref q31, .ref q40, .int 0, .ref q48, .int 0, .ref q56, .ref q65, .null])), (q8, .inl (ca 0, 549, .inl (fun _ => 0))), (q17, .inl (ca 0, 549, .inl (fun _ => 0))), (q24, .inl (ca 0, 4, .inl (fun _ => 0))), (q31, .inl (ca 0, 4, .inl (fun _ => 0))), (q40, .inl (ca 0, 240, .inl (fun _ => 0))), (q48, .inl (ca 0, 10, .inl (fun _ => 0))), (q56, .inl (ca 0, 8, .inl (fun _ => 0))), (q65, .inl (ca 0, 256, .inl (fun _ => 0))), (q73, .inl (ca 0, 60, .inl (fun _ => 0)))]) := hD
  refine va_putF (D := D) (ci := 10) (v := .ref q73) (ty := (.array .int)) (C := RX10) (T := TX10) (N := 13) hx hb ht uX10 tyX10 tyX10_ok nmX10 hown hE.1 hP hD hS 0 rfl rfl 12 (by decide) (ht _ m_802) (fun _ h9 => h9) rfl hin rfl (by decide +kernel) rfl rfl (Nat.le_of_ble_eq_true rfl) dX10_init_75 (fun H locs hP hD hS => ?_)
  have hP : va_P D vwCl ([(h0, .inr (10, [.ref q8, .ref q17, .int 0, .int 0, .ref q24, .ref q31, .ref q40, .int 0, .ref q48, .int 0, .ref q56, .ref q65, .ref q73])), (q8, .inl (ca 0, 549, .inl (fun _ => 0))), (q17, .inl (ca 0, 549, .inl (fun _ => 0))), (q24, .inl (ca 0, 4, .inl (fun _ => 0))), (q31, .inl (ca 0, 4, .inl (fun _ => 0))), (q40, .inl (ca 0, 240, .inl (fun _ => 0))), (q48, .inl (ca 0, 10, .inl (fun _ => 0))), (q56, .inl (ca 0, 8, .inl (fun _ => 0))), (q65, .inl (ca 0, 256, .inl (fun _ => 0))), (q73, .inl (ca 0, 60, .inl (fun _ => 0)))]) H := hP
  have hD : va_D A ([(h0, .inr (10, [.ref q8, .ref q17, .int 0, .int 0, .ref q24, .ref q31, .ref q40, .int 0, .ref q48, .int 0, .ref q56, .ref q65, .ref q73])), (q8, .inl (ca 0, 549, .inl (fun _ => 0))), (q17, .inl (ca 0, 549, .inl (fun _ => 0))), (q24, .inl (ca 0, 4, .inl (fun _ => 0))), (q31, .inl (ca 0, 4, .inl (fun _ => 0))), (q40, .inl (ca 0, 240, .inl (fun _ => 0))), (q48, .inl (ca 0, 10, .inl (fun _ => 0))), (q56, .inl (ca 0, 8, .inl (fun _ => 0))), (q65, .inl (ca 0, 256, .inl (fun _ => 0))), (q73, .inl (ca 0, 60, .inl (fun _ => 0)))]) := hD
  refine lv_aload_n hx hb dX10_init_78 rfl (lv_at hl 0 rfl) ?_
  refine va_get hx hb ht uX10 hown hE.1 hP 0 rfl rfl 0 (by decide) (ht _ m_790) (fun _ h9 => h9) rfl dX10_init_79 ?_
  refine lv_iconst (v := 5) hx hb dX10_init_82 (by decide) ?_
  refine lv_bipush (v := 60) hx hb dX10_init_83 (by decide) ?_
  refine va_iast hx hb hE.1 hP hD hS 1 0 rfl rfl (i := 5) (x := 60) (by unfold vp_in; decide) dX10_init_85 (fun H locs hP hD hS => ?_)
  have hP : va_P D vwCl ([(h0, .inr (10, [.ref q8, .ref q17, .int 0, .int 0, .ref q24, .ref q31, .ref q40, .int 0, .ref q48, .int 0, .ref q56, .ref q65, .ref q73])), (q8, .inl (ca 0, 549, .inl (upd (fun _ => 0) 5 60))), (q17, .inl (ca 0, 549, .inl (fun _ => 0))), (q24, .inl (ca 0, 4, .inl (fun _ => 0))), (q31, .inl (ca 0, 4, .inl (fun _ => 0))), (q40, .inl (ca 0, 240, .inl (fun _ => 0))), (q48, .inl (ca 0, 10, .inl (fun _ => 0))), (q56, .inl (ca 0, 8, .inl (fun _ => 0))), (q65, .inl (ca 0, 256, .inl (fun _ => 0))), (q73, .inl (ca 0, 60, .inl (fun _ => 0)))]) H := hP
  have hD : va_D A ([(h0, .inr (10, [.ref q8, .ref q17, .int 0, .int 0, .ref q24, .ref q31, .ref q40, .int 0, .ref q48, .int 0, .ref q56, .ref q65, .ref q73])), (q8, .inl (ca 0, 549, .inl (upd (fun _ => 0) 5 60))), (q17, .inl (ca 0, 549, .inl (fun _ => 0))), (q24, .inl (ca 0, 4, .inl (fun _ => 0))), (q31, .inl (ca 0, 4, .inl (fun _ => 0))), (q40, .inl (ca 0, 240, .inl (fun _ => 0))), (q48, .inl (ca 0, 10, .inl (fun _ => 0))), (q56, .inl (ca 0, 8, .inl (fun _ => 0))), (q65, .inl (ca 0, 256, .inl (fun _ => 0))), (q73, .inl (ca 0, 60, .inl (fun _ => 0)))]) := hD
  refine lv_aload_n hx hb dX10_init_86 rfl (lv_at hl 0 rfl) ?_
  refine va_get hx hb ht uX10 hown hE.1 hP 0 rfl rfl 0 (by decide) (ht _ m_790) (fun _ h9 => h9) rfl dX10_init_87 ?_
  refine lv_bipush (v := 6) hx hb dX10_init_90 (by decide) ?_
  refine lv_iconst (v := 3) hx hb dX10_init_92 (by decide) ?_
  refine va_iast hx hb hE.1 hP hD hS 1 0 rfl rfl (i := 6) (x := 3) (by unfold vp_in; decide) dX10_init_93 (fun H locs hP hD hS => ?_)
  have hP : va_P D vwCl ([(h0, .inr (10, [.ref q8, .ref q17, .int 0, .int 0, .ref q24, .ref q31, .ref q40, .int 0, .ref q48, .int 0, .ref q56, .ref q65, .ref q73])), (q8, .inl (ca 0, 549, .inl (upd (upd (fun _ => 0) 5 60) 6 3))), (q17, .inl (ca 0, 549, .inl (fun _ => 0))), (q24, .inl (ca 0, 4, .inl (fun _ => 0))), (q31, .inl (ca 0, 4, .inl (fun _ => 0))), (q40, .inl (ca 0, 240, .inl (fun _ => 0))), (q48, .inl (ca 0, 10, .inl (fun _ => 0))), (q56, .inl (ca 0, 8, .inl (fun _ => 0))), (q65, .inl (ca 0, 256, .inl (fun _ => 0))), (q73, .inl (ca 0, 60, .inl (fun _ => 0)))]) H := hP
  have hD : va_D A ([(h0, .inr (10, [.ref q8, .ref q17, .int 0, .int 0, .ref q24, .ref q31, .ref q40, .int 0, .ref q48, .int 0, .ref q56, .ref q65, .ref q73])), (q8, .inl (ca 0, 549, .inl (upd (upd (fun _ => 0) 5 60) 6 3))), (q17, .inl (ca 0, 549, .inl (fun _ => 0))), (q24, .inl (ca 0, 4, .inl (fun _ => 0))), (q31, .inl (ca 0, 4, .inl (fun _ => 0))), (q40, .inl (ca 0, 240, .inl (fun _ => 0))), (q48, .inl (ca 0, 10, .inl (fun _ => 0))), (q56, .inl (ca 0, 8, .inl (fun _ => 0))), (q65, .inl (ca 0, 256, .inl (fun _ => 0))), (q73, .inl (ca 0, 60, .inl (fun _ => 0)))]) := hD
  exact i_ret (w := wX10 ca) (h0 := h0) (fun k => ([h0, q8, q17, q24, q31, q40, q48, q56, q65, q73] : List Nat).getD k 0) hx hb hr hlk (Nat.le_of_ble_eq_true rfl) (Nat.le_of_ble_eq_true rfl) ⟨(Nat.le_of_ble_eq_true rfl), (Nat.le_of_ble_eq_true rfl)⟩ hP hD hS dX10_init_94
