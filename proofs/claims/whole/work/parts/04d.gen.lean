def M_X7_gainByFact (a1 a2 : Int32) (σ : gSt) : gO :=
  gIx 24 a1 (gNm ((σ 22 a1.toNatClampNeg) : Int32) (fun x2 => gIx 24 a1 (gNm ((σ 23 a1.toNatClampNeg) : Int32) (fun x4 => gIx 24 a1 (if (σ 18 a1.toNatClampNeg) = 0 then (gBd (M_X2_anyAtMost 1 x4 ((x4 - x2) + 1) σ) (fun r17 σ16 => if r17 = 0 then (some ((-1), σ16)) else (if a2 < x4 then (some ((-1), σ16)) else (some (x4, σ16))))) else (gIx 24 a1 (gBd (M_X2_anyAtMost 2 x2 (σ 21 a1.toNatClampNeg) σ) (fun r11 σ10 => if r11 = 0 then (some ((-1), σ10)) else (if a2 < x2 then (some ((-1), σ10)) else (some (x2, σ10)))))))))))
set_option maxHeartbeats 4000000 in
set_option maxRecDepth 100000 in
theorem c_X7_gainByFact (l : Launch) (G : gPar) (a1 a2 : Int32) (σ : gSt) {r : Int32} {σ' : gSt} (h : M_X7_gainByFact a1 a2 σ = some (r, σ')) : gC l G yX7_gainByFact cX7_gainByFact 8 (some .int) 2 47 [.ref (G.2.2.1 85), .int a1, .int a2] σ r σ' := by
  refine gC_of (by decide) (Nat.le_of_ble_eq_true rfl) ?_
  intro p e s m below meth c hx hb hr ht hown hlk hml hE hP ls hl
  have hS : va_S (gA G) s.heap s.heap [] := va_S.rf
  have hl : lv_has ls 8 [(0, .ref (G.2.2.1 85)), (1, .int a1), (2, .int a2)] := hl
  unfold M_X7_gainByFact at h
  refine lv_aload_n hx hb dX7_gainByFact_0 rfl (lv_at hl 0 rfl) ?_
  refine g_get hx hb ht hown hE hP (by decide) gE_85 uX7 rfl 0 (by decide) m_283 rfl rfl dX7_gainByFact_1 ?_
  refine g_get hx hb ht hown hE hP (by decide) gE_1 uX0 rfl 2 (by decide) m_251 rfl rfl dX7_gainByFact_4 ?_
  refine g_get hx hb ht hown hE hP (by decide) gE_17 uX1 rfl 5 (by decide) m_132 rfl rfl dX7_gainByFact_7 ?_
  refine lv_iload_n hx hb dX7_gainByFact_10 rfl (lv_at hl 1 rfl) ?_
  obtain ⟨i1, h⟩ := g_ix h
  refine g_iald hx hb hE hP (by decide) rfl (by decide) i1 dX7_gainByFact_11 ?_
  refine lv_topi (fun x2 ex2 => ?_)
  have h := g_nm ex2 h
  refine lv_istore_n (lv' := [(3, .int x2), (0, .ref (G.2.2.1 85)), (1, .int a1), (2, .int a2)]) hx hb dX7_gainByFact_12 rfl hl (by decide) rfl (fun ls hl => ?_)
  refine lv_aload_n hx hb dX7_gainByFact_13 rfl (lv_at hl 1 rfl) ?_
  refine g_get hx hb ht hown hE hP (by decide) gE_85 uX7 rfl 0 (by decide) m_283 rfl rfl dX7_gainByFact_14 ?_
  refine g_get hx hb ht hown hE hP (by decide) gE_1 uX0 rfl 2 (by decide) m_251 rfl rfl dX7_gainByFact_17 ?_
  refine g_get hx hb ht hown hE hP (by decide) gE_17 uX1 rfl 6 (by decide) m_134 rfl rfl dX7_gainByFact_20 ?_
  refine lv_iload_n hx hb dX7_gainByFact_23 rfl (lv_at hl 2 rfl) ?_
  obtain ⟨i3, h⟩ := g_ix h
  refine g_iald hx hb hE hP (by decide) rfl (by decide) i3 dX7_gainByFact_24 ?_
  refine lv_topi (fun x4 ex4 => ?_)
  have h := g_nm ex4 h
  refine lv_istore (lv' := [(4, .int x4), (3, .int x2), (0, .ref (G.2.2.1 85)), (1, .int a1), (2, .int a2)]) hx hb dX7_gainByFact_25 hl (by decide) rfl (fun ls hl => ?_)
  refine lv_aload_n hx hb dX7_gainByFact_27 rfl (lv_at hl 2 rfl) ?_
  refine g_get hx hb ht hown hE hP (by decide) gE_85 uX7 rfl 0 (by decide) m_283 rfl rfl dX7_gainByFact_28 ?_
  refine g_get hx hb ht hown hE hP (by decide) gE_1 uX0 rfl 2 (by decide) m_251 rfl rfl dX7_gainByFact_31 ?_
  refine g_get hx hb ht hown hE hP (by decide) gE_17 uX1 rfl 1 (by decide) m_124 rfl rfl dX7_gainByFact_34 ?_
  refine lv_iload_n hx hb dX7_gainByFact_37 rfl (lv_at hl 3 rfl) ?_
  obtain ⟨i5, h⟩ := g_ix h
  refine g_iald hx hb hE hP (by decide) rfl (by decide) i5 dX7_gainByFact_38 ?_
  refine lv_if_ne (tgt := 46) hx hb dX7_gainByFact_39 (by decide) (fun c6 => ?_) (fun c6 => ?_)
  · have h := g_iff c6 h
    refine lv_iconst (v := 0) hx hb dX7_gainByFact_46 (by decide) ?_
    refine lv_istore (lv' := [(5, .int 0), (4, .int x4), (3, .int x2), (0, .ref (G.2.2.1 85)), (1, .int a1), (2, .int a2)]) hx hb dX7_gainByFact_47 hl (by decide) rfl (fun ls hl => ?_)
    refine lv_iload hx hb dX7_gainByFact_49 (lv_at hl 0 rfl) ?_
    refine lv_if_eq (tgt := 59) hx hb dX7_gainByFact_51 (by decide) (fun _ => ?_) (fun c7 => absurd (by decide) c7)
    refine lv_iload_n hx hb dX7_gainByFact_59 rfl (lv_at hl 2 rfl) ?_
    refine lv_istore (lv' := [(6, .int x2), (5, .int 0), (4, .int x4), (3, .int x2), (0, .ref (G.2.2.1 85)), (1, .int a1), (2, .int a2)]) hx hb dX7_gainByFact_60 hl (by decide) rfl (fun ls hl => ?_)
    refine lv_iload hx hb dX7_gainByFact_62 (lv_at hl 1 rfl) ?_
    refine lv_if_eq (tgt := 89) hx hb dX7_gainByFact_64 (by decide) (fun _ => ?_) (fun c8 => absurd (by decide) c8)
    refine lv_aload_n hx hb dX7_gainByFact_89 rfl (lv_at hl 4 rfl) ?_
    refine g_get hx hb ht hown hE hP (by decide) gE_85 uX7 rfl 0 (by decide) m_283 rfl rfl dX7_gainByFact_90 ?_
    refine g_get hx hb ht hown hE hP (by decide) gE_1 uX0 rfl 3 (by decide) m_254 rfl rfl dX7_gainByFact_93 ?_
    refine lv_iconst (v := 2) hx hb dX7_gainByFact_96 (by decide) ?_
    refine lv_iload_n hx hb dX7_gainByFact_97 rfl (lv_at hl 3 rfl) ?_
    refine lv_aload_n hx hb dX7_gainByFact_98 rfl (lv_at hl 4 rfl) ?_
    refine g_get hx hb ht hown hE hP (by decide) gE_85 uX7 rfl 0 (by decide) m_283 rfl rfl dX7_gainByFact_99 ?_
    refine g_get hx hb ht hown hE hP (by decide) gE_1 uX0 rfl 2 (by decide) m_251 rfl rfl dX7_gainByFact_102 ?_
    refine g_get hx hb ht hown hE hP (by decide) gE_17 uX1 rfl 4 (by decide) m_130 rfl rfl dX7_gainByFact_105 ?_
    refine lv_iload_n hx hb dX7_gainByFact_108 rfl (lv_at hl 5 rfl) ?_
    obtain ⟨i9, h⟩ := g_ix h
    refine g_iald hx hb hE hP (by decide) rfl (by decide) i9 dX7_gainByFact_109 ?_
    obtain ⟨r11, σ10, hcr11, h⟩ := g_bd h
    refine g_callV (As := [.int 2, .int x2, .int (σ 21 a1.toNatClampNeg)]) (n := 3) hx hb hml hown ht (c_X2_anyAtMost l G _ _ _ _ hcr11) m_494 m_495 m_496 m_35 m_497 (by decide +kernel) (by decide) gE_26 rfl hE hP hS (fun _ h => h) (fun _ _ h => h) rfl hl.1 rfl (Nat.le_of_ble_eq_true rfl) dX7_gainByFact_110 ⟨by decide, by decide⟩ ⟨Nat.zero_le _, Nat.zero_le _⟩ (fun H locs hP hS => ?_)
    refine lv_istore (lv' := [(7, .int r11), (6, .int x2), (5, .int 0), (4, .int x4), (3, .int x2), (0, .ref (G.2.2.1 85)), (1, .int a1), (2, .int a2)]) hx hb dX7_gainByFact_113 hl (by decide) rfl (fun ls hl => ?_)
    refine lv_iload hx hb dX7_gainByFact_115 (lv_at hl 0 rfl) ?_
    refine lv_if_eq (tgt := 131) hx hb dX7_gainByFact_117 (by decide) (fun c12 => ?_) (fun c12 => ?_)
    · have h := g_ift c12 h
      refine lv_iconst (v := (-1)) hx hb dX7_gainByFact_131 (by decide) ?_
      exact g_iret hx hb hr hlk hE hP hS h dX7_gainByFact_132
    · have h := g_iff c12 h
      refine lv_iload hx hb dX7_gainByFact_120 (lv_at hl 1 rfl) ?_
      refine lv_iload_n hx hb dX7_gainByFact_122 rfl (lv_at hl 7 rfl) ?_
      refine lv_icmp_gt (tgt := 131) hx hb dX7_gainByFact_123 (by decide) (fun c13 => ?_) (fun c13 => ?_)
      · have h := g_ift c13 h
        refine lv_iconst (v := (-1)) hx hb dX7_gainByFact_131 (by decide) ?_
        exact g_iret hx hb hr hlk hE hP hS h dX7_gainByFact_132
      · have h := g_iff c13 h
        refine lv_iload hx hb dX7_gainByFact_126 (lv_at hl 1 rfl) ?_
        refine lv_goto (tgt := 132) hx hb dX7_gainByFact_128 (by decide) ?_
        exact g_iret hx hb hr hlk hE hP hS h dX7_gainByFact_132
  · have h := g_ift c6 h
    refine lv_iconst (v := 1) hx hb dX7_gainByFact_42 (by decide) ?_
    refine lv_goto (tgt := 47) hx hb dX7_gainByFact_43 (by decide) ?_
    refine lv_istore (lv' := [(5, .int 1), (4, .int x4), (3, .int x2), (0, .ref (G.2.2.1 85)), (1, .int a1), (2, .int a2)]) hx hb dX7_gainByFact_47 hl (by decide) rfl (fun ls hl => ?_)
    refine lv_iload hx hb dX7_gainByFact_49 (lv_at hl 0 rfl) ?_
    refine lv_if_eq (tgt := 59) hx hb dX7_gainByFact_51 (by decide) (fun c14 => absurd c14 (by decide)) (fun _ => ?_)
    refine lv_iload hx hb dX7_gainByFact_54 (lv_at hl 1 rfl) ?_
    refine lv_goto (tgt := 60) hx hb dX7_gainByFact_56 (by decide) ?_
    refine lv_istore (lv' := [(6, .int x4), (5, .int 1), (4, .int x4), (3, .int x2), (0, .ref (G.2.2.1 85)), (1, .int a1), (2, .int a2)]) hx hb dX7_gainByFact_60 hl (by decide) rfl (fun ls hl => ?_)
    refine lv_iload hx hb dX7_gainByFact_62 (lv_at hl 1 rfl) ?_
    refine lv_if_eq (tgt := 89) hx hb dX7_gainByFact_64 (by decide) (fun c15 => absurd c15 (by decide)) (fun _ => ?_)
    refine lv_aload_n hx hb dX7_gainByFact_67 rfl (lv_at hl 4 rfl) ?_
    refine g_get hx hb ht hown hE hP (by decide) gE_85 uX7 rfl 0 (by decide) m_283 rfl rfl dX7_gainByFact_68 ?_
    refine g_get hx hb ht hown hE hP (by decide) gE_1 uX0 rfl 3 (by decide) m_254 rfl rfl dX7_gainByFact_71 ?_
    refine lv_iconst (v := 1) hx hb dX7_gainByFact_74 (by decide) ?_
    refine lv_iload hx hb dX7_gainByFact_75 (lv_at hl 2 rfl) ?_
    refine lv_iload hx hb dX7_gainByFact_77 (lv_at hl 2 rfl) ?_
    refine lv_iload_n hx hb dX7_gainByFact_79 rfl (lv_at hl 3 rfl) ?_
    refine lv_isub hx hb dX7_gainByFact_80 ?_
    refine lv_iconst (v := 1) hx hb dX7_gainByFact_81 (by decide) ?_
    refine lv_iadd hx hb dX7_gainByFact_82 ?_
    obtain ⟨r17, σ16, hcr17, h⟩ := g_bd h
    refine g_callV (As := [.int 1, .int x4, .int ((x4 - x2) + 1)]) (n := 3) hx hb hml hown ht (c_X2_anyAtMost l G _ _ _ _ hcr17) m_494 m_495 m_496 m_35 m_497 (by decide +kernel) (by decide) gE_26 rfl hE hP hS (fun _ h => h) (fun _ _ h => h) rfl hl.1 rfl (Nat.le_of_ble_eq_true rfl) dX7_gainByFact_83 ⟨by decide, by decide⟩ ⟨Nat.zero_le _, Nat.zero_le _⟩ (fun H locs hP hS => ?_)
    refine lv_goto (tgt := 113) hx hb dX7_gainByFact_86 (by decide) ?_
    refine lv_istore (lv' := [(7, .int r17), (6, .int x4), (5, .int 1), (4, .int x4), (3, .int x2), (0, .ref (G.2.2.1 85)), (1, .int a1), (2, .int a2)]) hx hb dX7_gainByFact_113 hl (by decide) rfl (fun ls hl => ?_)
    refine lv_iload hx hb dX7_gainByFact_115 (lv_at hl 0 rfl) ?_
    refine lv_if_eq (tgt := 131) hx hb dX7_gainByFact_117 (by decide) (fun c18 => ?_) (fun c18 => ?_)
    · have h := g_ift c18 h
      refine lv_iconst (v := (-1)) hx hb dX7_gainByFact_131 (by decide) ?_
      exact g_iret hx hb hr hlk hE hP hS h dX7_gainByFact_132
    · have h := g_iff c18 h
      refine lv_iload hx hb dX7_gainByFact_120 (lv_at hl 1 rfl) ?_
      refine lv_iload_n hx hb dX7_gainByFact_122 rfl (lv_at hl 7 rfl) ?_
      refine lv_icmp_gt (tgt := 131) hx hb dX7_gainByFact_123 (by decide) (fun c19 => ?_) (fun c19 => ?_)
      · have h := g_ift c19 h
        refine lv_iconst (v := (-1)) hx hb dX7_gainByFact_131 (by decide) ?_
        exact g_iret hx hb hr hlk hE hP hS h dX7_gainByFact_132
      · have h := g_iff c19 h
        refine lv_iload hx hb dX7_gainByFact_126 (lv_at hl 1 rfl) ?_
        refine lv_goto (tgt := 132) hx hb dX7_gainByFact_128 (by decide) ?_
        exact g_iret hx hb hr hlk hE hP hS h dX7_gainByFact_132

def M_X7_gainByBirth (a1 a2 : Int32) (σ : gSt) : gO :=
  gIx 10 a1 (gNm ((σ 14 a1.toNatClampNeg) : Int32) (fun x2 => if a2 < x2 then (some ((-1), σ)) else (gBd (M_X2_anyRules 0 x2 σ) (fun r5 σ4 => if r5 = 0 then (some ((-1), σ4)) else (some (x2, σ4))))))
set_option maxHeartbeats 4000000 in
set_option maxRecDepth 100000 in
theorem c_X7_gainByBirth (l : Launch) (G : gPar) (a1 a2 : Int32) (σ : gSt) {r : Int32} {σ' : gSt} (h : M_X7_gainByBirth a1 a2 σ = some (r, σ')) : gC l G yX7_gainByBirth cX7_gainByBirth 4 (some .int) 2 46 [.ref (G.2.2.1 85), .int a1, .int a2] σ r σ' := by
  refine gC_of (by decide) (Nat.le_of_ble_eq_true rfl) ?_
  intro p e s m below meth c hx hb hr ht hown hlk hml hE hP ls hl
  have hS : va_S (gA G) s.heap s.heap [] := va_S.rf
  have hl : lv_has ls 4 [(0, .ref (G.2.2.1 85)), (1, .int a1), (2, .int a2)] := hl
  unfold M_X7_gainByBirth at h
  refine lv_aload_n hx hb dX7_gainByBirth_0 rfl (lv_at hl 0 rfl) ?_
  refine g_get hx hb ht hown hE hP (by decide) gE_85 uX7 rfl 0 (by decide) m_283 rfl rfl dX7_gainByBirth_1 ?_
  refine g_get hx hb ht hown hE hP (by decide) gE_1 uX0 rfl 1 (by decide) m_249 rfl rfl dX7_gainByBirth_4 ?_
  refine g_get hx hb ht hown hE hP (by decide) gE_11 uX5 rfl 3 (by decide) m_95 rfl rfl dX7_gainByBirth_7 ?_
  refine lv_iload_n hx hb dX7_gainByBirth_10 rfl (lv_at hl 1 rfl) ?_
  obtain ⟨i1, h⟩ := g_ix h
  refine g_iald hx hb hE hP (by decide) rfl (by decide) i1 dX7_gainByBirth_11 ?_
  refine lv_topi (fun x2 ex2 => ?_)
  have h := g_nm ex2 h
  refine lv_istore_n (lv' := [(3, .int x2), (0, .ref (G.2.2.1 85)), (1, .int a1), (2, .int a2)]) hx hb dX7_gainByBirth_12 rfl hl (by decide) rfl (fun ls hl => ?_)
  refine lv_iload_n hx hb dX7_gainByBirth_13 rfl (lv_at hl 0 rfl) ?_
  refine lv_iload_n hx hb dX7_gainByBirth_14 rfl (lv_at hl 3 rfl) ?_
  refine lv_icmp_gt (tgt := 37) hx hb dX7_gainByBirth_15 (by decide) (fun c3 => ?_) (fun c3 => ?_)
  · have h := g_ift c3 h
    refine lv_iconst (v := (-1)) hx hb dX7_gainByBirth_37 (by decide) ?_
    exact g_iret hx hb hr hlk hE hP hS h dX7_gainByBirth_38
  · have h := g_iff c3 h
    refine lv_aload_n hx hb dX7_gainByBirth_18 rfl (lv_at hl 1 rfl) ?_
    refine g_get hx hb ht hown hE hP (by decide) gE_85 uX7 rfl 0 (by decide) m_283 rfl rfl dX7_gainByBirth_19 ?_
    refine g_get hx hb ht hown hE hP (by decide) gE_1 uX0 rfl 3 (by decide) m_254 rfl rfl dX7_gainByBirth_22 ?_
    refine lv_iconst (v := 0) hx hb dX7_gainByBirth_25 (by decide) ?_
    refine lv_iload_n hx hb dX7_gainByBirth_26 rfl (lv_at hl 0 rfl) ?_
    obtain ⟨r5, σ4, hcr5, h⟩ := g_bd h
    refine g_callV (As := [.int 0, .int x2]) (n := 2) hx hb hml hown ht (c_X2_anyRules l G _ _ _ hcr5) m_507 m_508 m_509 m_35 m_510 (by decide +kernel) (by decide) gE_26 rfl hE hP hS (fun _ h => h) (fun _ _ h => h) rfl hl.1 rfl (Nat.le_of_ble_eq_true rfl) dX7_gainByBirth_27 ⟨by decide, by decide⟩ ⟨Nat.zero_le _, Nat.zero_le _⟩ (fun H locs hP hS => ?_)
    refine lv_if_eq (tgt := 37) hx hb dX7_gainByBirth_30 (by decide) (fun c6 => ?_) (fun c6 => ?_)
    · have h := g_ift c6 h
      refine lv_iconst (v := (-1)) hx hb dX7_gainByBirth_37 (by decide) ?_
      exact g_iret hx hb hr hlk hE hP hS h dX7_gainByBirth_38
    · have h := g_iff c6 h
      refine lv_iload_n hx hb dX7_gainByBirth_33 rfl (lv_at hl 0 rfl) ?_
      refine lv_goto (tgt := 38) hx hb dX7_gainByBirth_34 (by decide) ?_
      exact g_iret hx hb hr hlk hE hP hS h dX7_gainByBirth_38

def M_X7_leaderOf (a1 a2 : Int32) (σ : gSt) : gO :=
  gIx 10 a1 (gNm ((σ 14 a1.toNatClampNeg) : Int32) (fun x2 => gIx 10 a1 (gNm ((σ 16 a1.toNatClampNeg) : Int32) (fun x4 => gIx 10 a1 (if (σ 12 a1.toNatClampNeg) = 1 then (if a2 < x4 then (some ((-1), σ)) else (gBd (M_X2_anyRules 3 x4 σ) (fun r21 σ20 => if r21 = 0 then (some ((-1), σ20)) else (gIx 10 a1 (some ((σ20 15 a1.toNatClampNeg), σ20)))))) else (gIx 10 a1 (if (σ 12 a1.toNatClampNeg) = 2 then (if a2 < x2 then (some ((-1), σ)) else (gBd (M_X2_anyAbove 4 x2 (a2 - x2) σ) (fun r13 σ12 => if r13 = 0 then (some ((-1), σ12)) else (gIx 10 a1 (some ((σ12 15 a1.toNatClampNeg), σ12)))))) else (some ((-1), σ)))))))))
set_option maxHeartbeats 4000000 in
set_option maxRecDepth 100000 in
theorem c_X7_leaderOf (l : Launch) (G : gPar) (a1 a2 : Int32) (σ : gSt) {r : Int32} {σ' : gSt} (h : M_X7_leaderOf a1 a2 σ = some (r, σ')) : gC l G yX7_leaderOf cX7_leaderOf 6 (some .int) 2 47 [.ref (G.2.2.1 85), .int a1, .int a2] σ r σ' := by
  refine gC_of (by decide) (Nat.le_of_ble_eq_true rfl) ?_
  intro p e s m below meth c hx hb hr ht hown hlk hml hE hP ls hl
  have hS : va_S (gA G) s.heap s.heap [] := va_S.rf
  have hl : lv_has ls 6 [(0, .ref (G.2.2.1 85)), (1, .int a1), (2, .int a2)] := hl
  unfold M_X7_leaderOf at h
  refine lv_aload_n hx hb dX7_leaderOf_0 rfl (lv_at hl 0 rfl) ?_
  refine g_get hx hb ht hown hE hP (by decide) gE_85 uX7 rfl 0 (by decide) m_283 rfl rfl dX7_leaderOf_1 ?_
  refine g_get hx hb ht hown hE hP (by decide) gE_1 uX0 rfl 1 (by decide) m_249 rfl rfl dX7_leaderOf_4 ?_
  refine g_get hx hb ht hown hE hP (by decide) gE_11 uX5 rfl 3 (by decide) m_95 rfl rfl dX7_leaderOf_7 ?_
  refine lv_iload_n hx hb dX7_leaderOf_10 rfl (lv_at hl 1 rfl) ?_
  obtain ⟨i1, h⟩ := g_ix h
  refine g_iald hx hb hE hP (by decide) rfl (by decide) i1 dX7_leaderOf_11 ?_
  refine lv_topi (fun x2 ex2 => ?_)
  have h := g_nm ex2 h
  refine lv_istore_n (lv' := [(3, .int x2), (0, .ref (G.2.2.1 85)), (1, .int a1), (2, .int a2)]) hx hb dX7_leaderOf_12 rfl hl (by decide) rfl (fun ls hl => ?_)
  refine lv_aload_n hx hb dX7_leaderOf_13 rfl (lv_at hl 1 rfl) ?_
  refine g_get hx hb ht hown hE hP (by decide) gE_85 uX7 rfl 0 (by decide) m_283 rfl rfl dX7_leaderOf_14 ?_
  refine g_get hx hb ht hown hE hP (by decide) gE_1 uX0 rfl 1 (by decide) m_249 rfl rfl dX7_leaderOf_17 ?_
  refine g_get hx hb ht hown hE hP (by decide) gE_11 uX5 rfl 5 (by decide) m_100 rfl rfl dX7_leaderOf_20 ?_
  refine lv_iload_n hx hb dX7_leaderOf_23 rfl (lv_at hl 2 rfl) ?_
  obtain ⟨i3, h⟩ := g_ix h
  refine g_iald hx hb hE hP (by decide) rfl (by decide) i3 dX7_leaderOf_24 ?_
  refine lv_topi (fun x4 ex4 => ?_)
  have h := g_nm ex4 h
  refine lv_istore (lv' := [(4, .int x4), (3, .int x2), (0, .ref (G.2.2.1 85)), (1, .int a1), (2, .int a2)]) hx hb dX7_leaderOf_25 hl (by decide) rfl (fun ls hl => ?_)
  refine lv_iconst (v := 0) hx hb dX7_leaderOf_27 (by decide) ?_
  refine lv_istore (lv' := [(5, .int 0), (4, .int x4), (3, .int x2), (0, .ref (G.2.2.1 85)), (1, .int a1), (2, .int a2)]) hx hb dX7_leaderOf_28 hl (by decide) rfl (fun ls hl => ?_)
  refine lv_aload_n hx hb dX7_leaderOf_30 rfl (lv_at hl 3 rfl) ?_
  refine g_get hx hb ht hown hE hP (by decide) gE_85 uX7 rfl 0 (by decide) m_283 rfl rfl dX7_leaderOf_31 ?_
  refine g_get hx hb ht hown hE hP (by decide) gE_1 uX0 rfl 1 (by decide) m_249 rfl rfl dX7_leaderOf_34 ?_
  refine g_get hx hb ht hown hE hP (by decide) gE_11 uX5 rfl 1 (by decide) m_91 rfl rfl dX7_leaderOf_37 ?_
  refine lv_iload_n hx hb dX7_leaderOf_40 rfl (lv_at hl 4 rfl) ?_
  obtain ⟨i5, h⟩ := g_ix h
  refine g_iald hx hb hE hP (by decide) rfl (by decide) i5 dX7_leaderOf_41 ?_
  refine lv_iconst (v := 1) hx hb dX7_leaderOf_42 (by decide) ?_
  refine lv_icmp_ne (tgt := 78) hx hb dX7_leaderOf_43 (by decide) (fun c6 => ?_) (fun c6 => ?_)
  · have h := g_iff c6 h
    refine lv_aload_n hx hb dX7_leaderOf_78 rfl (lv_at hl 3 rfl) ?_
    refine g_get hx hb ht hown hE hP (by decide) gE_85 uX7 rfl 0 (by decide) m_283 rfl rfl dX7_leaderOf_79 ?_
    refine g_get hx hb ht hown hE hP (by decide) gE_1 uX0 rfl 1 (by decide) m_249 rfl rfl dX7_leaderOf_82 ?_
    refine g_get hx hb ht hown hE hP (by decide) gE_11 uX5 rfl 1 (by decide) m_91 rfl rfl dX7_leaderOf_85 ?_
    refine lv_iload_n hx hb dX7_leaderOf_88 rfl (lv_at hl 4 rfl) ?_
    obtain ⟨i7, h⟩ := g_ix h
    refine g_iald hx hb hE hP (by decide) rfl (by decide) i7 dX7_leaderOf_89 ?_
    refine lv_iconst (v := 2) hx hb dX7_leaderOf_90 (by decide) ?_
    refine lv_icmp_ne (tgt := 124) hx hb dX7_leaderOf_91 (by decide) (fun c8 => ?_) (fun c8 => ?_)
    · have h := g_iff c8 h
      refine lv_iload hx hb dX7_leaderOf_124 (lv_at hl 0 rfl) ?_
      refine lv_if_eq (tgt := 144) hx hb dX7_leaderOf_126 (by decide) (fun _ => ?_) (fun c9 => absurd (by decide) c9)
      refine lv_iconst (v := (-1)) hx hb dX7_leaderOf_144 (by decide) ?_
      exact g_iret hx hb hr hlk hE hP hS h dX7_leaderOf_145
    · have h := g_ift c8 h
      refine lv_iload_n hx hb dX7_leaderOf_94 rfl (lv_at hl 2 rfl) ?_
      refine lv_iload_n hx hb dX7_leaderOf_95 rfl (lv_at hl 5 rfl) ?_
      refine lv_icmp_gt (tgt := 121) hx hb dX7_leaderOf_96 (by decide) (fun c10 => ?_) (fun c10 => ?_)
      · have h := g_ift c10 h
        refine lv_iconst (v := 0) hx hb dX7_leaderOf_121 (by decide) ?_
        refine lv_istore (lv' := [(5, .int 0), (4, .int x4), (3, .int x2), (0, .ref (G.2.2.1 85)), (1, .int a1), (2, .int a2)]) hx hb dX7_leaderOf_122 hl (by decide) rfl (fun ls hl => ?_)
        refine lv_iload hx hb dX7_leaderOf_124 (lv_at hl 0 rfl) ?_
        refine lv_if_eq (tgt := 144) hx hb dX7_leaderOf_126 (by decide) (fun _ => ?_) (fun c11 => absurd (by decide) c11)
        refine lv_iconst (v := (-1)) hx hb dX7_leaderOf_144 (by decide) ?_
        exact g_iret hx hb hr hlk hE hP hS h dX7_leaderOf_145
      · have h := g_iff c10 h
        refine lv_aload_n hx hb dX7_leaderOf_99 rfl (lv_at hl 3 rfl) ?_
        refine g_get hx hb ht hown hE hP (by decide) gE_85 uX7 rfl 0 (by decide) m_283 rfl rfl dX7_leaderOf_100 ?_
        refine g_get hx hb ht hown hE hP (by decide) gE_1 uX0 rfl 3 (by decide) m_254 rfl rfl dX7_leaderOf_103 ?_
        refine lv_iconst (v := 4) hx hb dX7_leaderOf_106 (by decide) ?_
        refine lv_iload_n hx hb dX7_leaderOf_107 rfl (lv_at hl 2 rfl) ?_
        refine lv_iload_n hx hb dX7_leaderOf_108 rfl (lv_at hl 5 rfl) ?_
        refine lv_iload_n hx hb dX7_leaderOf_109 rfl (lv_at hl 2 rfl) ?_
        refine lv_isub hx hb dX7_leaderOf_110 ?_
        obtain ⟨r13, σ12, hcr13, h⟩ := g_bd h
        refine g_callV (As := [.int 4, .int x2, .int (a2 - x2)]) (n := 3) hx hb hml hown ht (c_X2_anyAbove l G _ _ _ _ hcr13) m_515 m_516 m_517 m_35 m_518 (by decide +kernel) (by decide) gE_26 rfl hE hP hS (fun _ h => h) (fun _ _ h => h) rfl hl.1 rfl (Nat.le_of_ble_eq_true rfl) dX7_leaderOf_111 ⟨by decide, by decide⟩ ⟨Nat.zero_le _, Nat.zero_le _⟩ (fun H locs hP hS => ?_)
        refine lv_if_eq (tgt := 121) hx hb dX7_leaderOf_114 (by decide) (fun c14 => ?_) (fun c14 => ?_)
        · have h := g_ift c14 h
          refine lv_iconst (v := 0) hx hb dX7_leaderOf_121 (by decide) ?_
          refine lv_istore (lv' := [(5, .int 0), (4, .int x4), (3, .int x2), (0, .ref (G.2.2.1 85)), (1, .int a1), (2, .int a2)]) hx hb dX7_leaderOf_122 hl (by decide) rfl (fun ls hl => ?_)
          refine lv_iload hx hb dX7_leaderOf_124 (lv_at hl 0 rfl) ?_
          refine lv_if_eq (tgt := 144) hx hb dX7_leaderOf_126 (by decide) (fun _ => ?_) (fun c15 => absurd (by decide) c15)
          refine lv_iconst (v := (-1)) hx hb dX7_leaderOf_144 (by decide) ?_
          exact g_iret hx hb hr hlk hE hP hS h dX7_leaderOf_145
        · have h := g_iff c14 h
          refine lv_iconst (v := 1) hx hb dX7_leaderOf_117 (by decide) ?_
          refine lv_goto (tgt := 122) hx hb dX7_leaderOf_118 (by decide) ?_
          refine lv_istore (lv' := [(5, .int 1), (4, .int x4), (3, .int x2), (0, .ref (G.2.2.1 85)), (1, .int a1), (2, .int a2)]) hx hb dX7_leaderOf_122 hl (by decide) rfl (fun ls hl => ?_)
          refine lv_iload hx hb dX7_leaderOf_124 (lv_at hl 0 rfl) ?_
          refine lv_if_eq (tgt := 144) hx hb dX7_leaderOf_126 (by decide) (fun c16 => absurd c16 (by decide)) (fun _ => ?_)
          refine lv_aload_n hx hb dX7_leaderOf_129 rfl (lv_at hl 3 rfl) ?_
          refine g_get hx hb ht hown hE hP (by decide) gE_85 uX7 rfl 0 (by decide) m_283 rfl rfl dX7_leaderOf_130 ?_
          refine g_get hx hb ht hown hE hP (by decide) gE_1 uX0 rfl 1 (by decide) m_249 rfl rfl dX7_leaderOf_133 ?_
          refine g_get hx hb ht hown hE hP (by decide) gE_11 uX5 rfl 4 (by decide) m_98 rfl rfl dX7_leaderOf_136 ?_
          refine lv_iload_n hx hb dX7_leaderOf_139 rfl (lv_at hl 4 rfl) ?_
          obtain ⟨i17, h⟩ := g_ix h
          refine g_iald hx hb hE hP (by decide) rfl (by decide) i17 dX7_leaderOf_140 ?_
          refine lv_goto (tgt := 145) hx hb dX7_leaderOf_141 (by decide) ?_
          exact g_iret hx hb hr hlk hE hP hS h dX7_leaderOf_145
  · have h := g_ift c6 h
    refine lv_iload hx hb dX7_leaderOf_46 (lv_at hl 1 rfl) ?_
    refine lv_iload_n hx hb dX7_leaderOf_48 rfl (lv_at hl 5 rfl) ?_
    refine lv_icmp_gt (tgt := 72) hx hb dX7_leaderOf_49 (by decide) (fun c18 => ?_) (fun c18 => ?_)
    · have h := g_ift c18 h
      refine lv_iconst (v := 0) hx hb dX7_leaderOf_72 (by decide) ?_
      refine lv_istore (lv' := [(5, .int 0), (4, .int x4), (3, .int x2), (0, .ref (G.2.2.1 85)), (1, .int a1), (2, .int a2)]) hx hb dX7_leaderOf_73 hl (by decide) rfl (fun ls hl => ?_)
      refine lv_goto (tgt := 124) hx hb dX7_leaderOf_75 (by decide) ?_
      refine lv_iload hx hb dX7_leaderOf_124 (lv_at hl 0 rfl) ?_
      refine lv_if_eq (tgt := 144) hx hb dX7_leaderOf_126 (by decide) (fun _ => ?_) (fun c19 => absurd (by decide) c19)
      refine lv_iconst (v := (-1)) hx hb dX7_leaderOf_144 (by decide) ?_
      exact g_iret hx hb hr hlk hE hP hS h dX7_leaderOf_145
    · have h := g_iff c18 h
      refine lv_aload_n hx hb dX7_leaderOf_52 rfl (lv_at hl 3 rfl) ?_
      refine g_get hx hb ht hown hE hP (by decide) gE_85 uX7 rfl 0 (by decide) m_283 rfl rfl dX7_leaderOf_53 ?_
      refine g_get hx hb ht hown hE hP (by decide) gE_1 uX0 rfl 3 (by decide) m_254 rfl rfl dX7_leaderOf_56 ?_
      refine lv_iconst (v := 3) hx hb dX7_leaderOf_59 (by decide) ?_
      refine lv_iload hx hb dX7_leaderOf_60 (lv_at hl 1 rfl) ?_
      obtain ⟨r21, σ20, hcr21, h⟩ := g_bd h
      refine g_callV (As := [.int 3, .int x4]) (n := 2) hx hb hml hown ht (c_X2_anyRules l G _ _ _ hcr21) m_507 m_508 m_509 m_35 m_510 (by decide +kernel) (by decide) gE_26 rfl hE hP hS (fun _ h => h) (fun _ _ h => h) rfl hl.1 rfl (Nat.le_of_ble_eq_true rfl) dX7_leaderOf_62 ⟨by decide, by decide⟩ ⟨Nat.zero_le _, Nat.zero_le _⟩ (fun H locs hP hS => ?_)
      refine lv_if_eq (tgt := 72) hx hb dX7_leaderOf_65 (by decide) (fun c22 => ?_) (fun c22 => ?_)
      · have h := g_ift c22 h
        refine lv_iconst (v := 0) hx hb dX7_leaderOf_72 (by decide) ?_
        refine lv_istore (lv' := [(5, .int 0), (4, .int x4), (3, .int x2), (0, .ref (G.2.2.1 85)), (1, .int a1), (2, .int a2)]) hx hb dX7_leaderOf_73 hl (by decide) rfl (fun ls hl => ?_)
        refine lv_goto (tgt := 124) hx hb dX7_leaderOf_75 (by decide) ?_
        refine lv_iload hx hb dX7_leaderOf_124 (lv_at hl 0 rfl) ?_
        refine lv_if_eq (tgt := 144) hx hb dX7_leaderOf_126 (by decide) (fun _ => ?_) (fun c23 => absurd (by decide) c23)
        refine lv_iconst (v := (-1)) hx hb dX7_leaderOf_144 (by decide) ?_
        exact g_iret hx hb hr hlk hE hP hS h dX7_leaderOf_145
      · have h := g_iff c22 h
        refine lv_iconst (v := 1) hx hb dX7_leaderOf_68 (by decide) ?_
        refine lv_goto (tgt := 73) hx hb dX7_leaderOf_69 (by decide) ?_
        refine lv_istore (lv' := [(5, .int 1), (4, .int x4), (3, .int x2), (0, .ref (G.2.2.1 85)), (1, .int a1), (2, .int a2)]) hx hb dX7_leaderOf_73 hl (by decide) rfl (fun ls hl => ?_)
        refine lv_goto (tgt := 124) hx hb dX7_leaderOf_75 (by decide) ?_
        refine lv_iload hx hb dX7_leaderOf_124 (lv_at hl 0 rfl) ?_
        refine lv_if_eq (tgt := 144) hx hb dX7_leaderOf_126 (by decide) (fun c24 => absurd c24 (by decide)) (fun _ => ?_)
        refine lv_aload_n hx hb dX7_leaderOf_129 rfl (lv_at hl 3 rfl) ?_
        refine g_get hx hb ht hown hE hP (by decide) gE_85 uX7 rfl 0 (by decide) m_283 rfl rfl dX7_leaderOf_130 ?_
        refine g_get hx hb ht hown hE hP (by decide) gE_1 uX0 rfl 1 (by decide) m_249 rfl rfl dX7_leaderOf_133 ?_
        refine g_get hx hb ht hown hE hP (by decide) gE_11 uX5 rfl 4 (by decide) m_98 rfl rfl dX7_leaderOf_136 ?_
        refine lv_iload_n hx hb dX7_leaderOf_139 rfl (lv_at hl 4 rfl) ?_
        obtain ⟨i25, h⟩ := g_ix h
        refine g_iald hx hb hE hP (by decide) rfl (by decide) i25 dX7_leaderOf_140 ?_
        refine lv_goto (tgt := 145) hx hb dX7_leaderOf_141 (by decide) ?_
        exact g_iret hx hb hr hlk hE hP hS h dX7_leaderOf_145

def L1_X7_prepare (a1 a2 a3 : Int32) : Nat → Int32 → gSt → (Int32 → gSt → gO) → gO
  | 0, _, _, _ => none
  | nL1 + 1, l1_4, σL1, kL1 =>
    if (σL1 17 0) ≤ l1_4 then (kL1 l1_4 σL1) else (gIx 24 l1_4 (if a3 < (σL1 24 l1_4.toNatClampNeg) then (gIx 24 l1_4 (gNm (gUp σL1 86 l1_4.toNatClampNeg (-1)) (fun σ6 => gNm (l1_4 + 1 : Int32) (fun x7 => L1_X7_prepare a1 a2 a3 nL1 x7 σ6 kL1)))) else (gBd (M_X7_gainByFact l1_4 a2 σL1) (fun r9 σ8 => gIx 24 l1_4 (gNm (gUp σ8 86 l1_4.toNatClampNeg r9) (fun σ11 => gNm (l1_4 + 1 : Int32) (fun x12 => L1_X7_prepare a1 a2 a3 nL1 x12 σ11 kL1)))))))
def L16_X7_prepare (a1 a2 a3 : Int32) : Nat → Int32 → gSt → (Int32 → gSt → gO) → gO
  | 0, _, _, _ => none
  | nL16 + 1, l16_4, σL16, kL16 =>
    if 10 ≤ (σL16 85 7) then (kL16 l16_4 σL16) else (gBd (M_X5_has l16_4 σL16) (fun r19 σ18 => if r19 = 0 then (kL16 l16_4 σ18) else (gIx 10 (σ18 85 7) (gNm (gUp σ18 87 (σ18 85 7).toNatClampNeg l16_4) (fun σ22 => gBd (M_X7_gainByBirth l16_4 a2 σ22) (fun r24 σ23 => gIx 10 (σ22 85 7) (gNm (gUp σ23 88 (σ22 85 7).toNatClampNeg r24) (fun σ26 => gNm (gUp σ26 85 7 ((σ26 85 7) + 1)) (fun σ27 => gBd (M_X7_leaderOf l16_4 a2 σ27) (fun r29 σ28 => L16_X7_prepare a1 a2 a3 nL16 r29 σ28 kL16))))))))))
def M_X7_prepare (a1 a2 a3 : Int32) (σ : gSt) : gO :=
  L1_X7_prepare a1 a2 a3 gFu 0 σ (fun z13 σ14 => gNm (gUp σ14 85 7 0) (fun σ15 => L16_X7_prepare a1 a2 a3 gFu a1 σ15 (fun z30 σ31 => some (0, σ31))))
set_option maxHeartbeats 4000000 in
set_option maxRecDepth 100000 in
theorem c_X7_prepare (l : Launch) (G : gPar) (a1 a2 a3 : Int32) (σ : gSt) {r : Int32} {σ' : gSt} (h : M_X7_prepare a1 a2 a3 σ = some (r, σ')) : gV l G yX7_prepare cX7_prepare 5 3 74 [.ref (G.2.2.1 85), .int a1, .int a2, .int a3] σ σ' := by
  refine gV_of (by decide) (Nat.le_of_ble_eq_true rfl) ?_
  intro p e s m below meth c hx hb hr ht hown hlk hml hE hP ls hl
  have hS : va_S (gA G) s.heap s.heap [] := va_S.rf
  have hl : lv_has ls 5 [(0, .ref (G.2.2.1 85)), (1, .int a1), (2, .int a2), (3, .int a3)] := hl
  unfold M_X7_prepare at h
  refine lv_iconst (v := 0) hx hb dX7_prepare_0 (by decide) ?_
  refine lv_istore (lv' := [(4, .int 0), (0, .ref (G.2.2.1 85)), (1, .int a1), (2, .int a2), (3, .int a3)]) hx hb dX7_prepare_1 hl (by decide) rfl (fun ls hl => ?_)
  have LPL1 : ∀ (kL1 : Int32 → gSt → gO), (∀ (l1_4 : Int32) (σL1 : gSt) (H : Heap) (locs : List Loc) (ls : Array Slot), kL1 l1_4 σL1 = some (r, σ') → gW G σL1 H → va_S (gA G) s.heap H locs → lv_has ls 5 [(4, .int l1_4), (0, .ref (G.2.2.1 85)), (1, .int a1), (2, .int a2), (3, .int a3)] → W p l e (gRm 3 74) s m ([.ref (G.2.2.1 85), .int a1, .int a2, .int a3].toArray) below meth c H locs 0 0 (MQ below (gQv G σ') ([.ref (G.2.2.1 85), .int a1, .int a2, .int a3].toArray) s 0 0 (gA G)) (F0 m 59 ls [])) → ∀ (nL1 : Nat) (l1_4 : Int32) (σL1 : gSt) (H : Heap) (locs : List Loc) (ls : Array Slot), L1_X7_prepare a1 a2 a3 nL1 l1_4 σL1 kL1 = some (r, σ') → gW G σL1 H → va_S (gA G) s.heap H locs → lv_has ls 5 [(4, .int l1_4), (0, .ref (G.2.2.1 85)), (1, .int a1), (2, .int a2), (3, .int a3)] → W p l e (gRm 3 74) s m ([.ref (G.2.2.1 85), .int a1, .int a2, .int a3].toArray) below meth c H locs 0 0 (MQ below (gQv G σ') ([.ref (G.2.2.1 85), .int a1, .int a2, .int a3].toArray) s 0 0 (gA G)) (F0 m 3 ls []) := by
    intro kL1 hKL1 nL1
    induction nL1 with
    | zero =>
      intro l1_4 σL1 H locs ls h
      cases h
    | succ nL1 ihL1 =>
      intro l1_4 σL1 H locs ls h hP hS hl
      rw [L1_X7_prepare] at h
      refine lv_iload hx hb dX7_prepare_3 (lv_at hl 0 rfl) ?_
      refine lv_aload_n hx hb dX7_prepare_5 rfl (lv_at hl 1 rfl) ?_
      refine g_get hx hb ht hown hE hP (by decide) gE_85 uX7 rfl 0 (by decide) m_283 rfl rfl dX7_prepare_6 ?_
      refine g_get hx hb ht hown hE hP (by decide) gE_1 uX0 rfl 2 (by decide) m_251 rfl rfl dX7_prepare_9 ?_
      refine g_get hx hb ht hown hE hP (by decide) gE_17 uX1 rfl 0 (by decide) m_121 rfl rfl dX7_prepare_12 ?_
      refine lv_icmp_ge (tgt := 59) hx hb dX7_prepare_15 (by decide) (fun c2 => ?_) (fun c2 => ?_)
      · have h := g_ift c2 h
        exact hKL1 _ _ _ _ _ h hP hS (lv_sub hl [0, 1, 2, 3, 4] rfl)
      · have h := g_iff c2 h
        refine lv_aload_n hx hb dX7_prepare_18 rfl (lv_at hl 1 rfl) ?_
        refine g_get hx hb ht hown hE hP (by decide) gE_85 uX7 rfl 1 (by decide) m_284 rfl rfl dX7_prepare_19 ?_
        refine lv_iload hx hb dX7_prepare_22 (lv_at hl 0 rfl) ?_
        refine lv_aload_n hx hb dX7_prepare_24 rfl (lv_at hl 1 rfl) ?_
        refine g_get hx hb ht hown hE hP (by decide) gE_85 uX7 rfl 0 (by decide) m_283 rfl rfl dX7_prepare_25 ?_
        refine g_get hx hb ht hown hE hP (by decide) gE_1 uX0 rfl 2 (by decide) m_251 rfl rfl dX7_prepare_28 ?_
        refine g_get hx hb ht hown hE hP (by decide) gE_17 uX1 rfl 7 (by decide) m_136 rfl rfl dX7_prepare_31 ?_
        refine lv_iload hx hb dX7_prepare_34 (lv_at hl 0 rfl) ?_
        obtain ⟨i3, h⟩ := g_ix h
        refine g_iald hx hb hE hP (by decide) rfl (by decide) i3 dX7_prepare_36 ?_
        refine lv_iload_n hx hb dX7_prepare_37 rfl (lv_at hl 4 rfl) ?_
        refine lv_icmp_gt (tgt := 51) hx hb dX7_prepare_38 (by decide) (fun c4 => ?_) (fun c4 => ?_)
        · have h := g_ift c4 h
          refine lv_iconst (v := (-1)) hx hb dX7_prepare_51 (by decide) ?_
          obtain ⟨i5, h⟩ := g_ix h
          refine g_iast hx hb hE hP hS (by decide) rfl (by decide) i5 dX7_prepare_52 (fun H locs σ6 eσ6 hP hS => ?_)
          have h := g_nm eσ6 h
          obtain ⟨x7, ex7⟩ : ∃ y : Int32, y = l1_4 + 1 := ⟨_, rfl⟩
          have h := g_nm ex7 h
          refine lv_iinc (v := x7) (lv' := [(4, .int x7), (0, .ref (G.2.2.1 85)), (1, .int a1), (2, .int a2), (3, .int a3)]) hx hb dX7_prepare_53 hl (k := 0) rfl (by rw [ex7]; rfl) (by decide) rfl (fun ls hl => ?_)
          refine lv_goto (tgt := 3) hx hb dX7_prepare_56 (by decide) ?_
          exact ihL1 _ _ _ _ _ h hP hS (lv_sub hl [0, 1, 2, 3, 4] rfl)
        · have h := g_iff c4 h
          refine lv_aload_n hx hb dX7_prepare_41 rfl (lv_at hl 1 rfl) ?_
          refine lv_iload hx hb dX7_prepare_42 (lv_at hl 0 rfl) ?_
          refine lv_iload_n hx hb dX7_prepare_44 rfl (lv_at hl 3 rfl) ?_
          obtain ⟨r9, σ8, hcr9, h⟩ := g_bd h
          refine g_callV (As := [.int l1_4, .int a2]) (n := 2) hx hb hml hown ht (c_X7_gainByFact l G _ _ _ hcr9) m_490 m_492 m_3 m_38 m_493 (by decide +kernel) (by decide) gE_85 rfl hE hP hS (fun _ h => h) (fun _ _ h => h) rfl hl.1 rfl (Nat.le_of_ble_eq_true rfl) dX7_prepare_45 ⟨by decide, by decide⟩ ⟨Nat.zero_le _, Nat.zero_le _⟩ (fun H locs hP hS => ?_)
          refine lv_goto (tgt := 52) hx hb dX7_prepare_48 (by decide) ?_
          obtain ⟨i10, h⟩ := g_ix h
          refine g_iast hx hb hE hP hS (by decide) rfl (by decide) i10 dX7_prepare_52 (fun H locs σ11 eσ11 hP hS => ?_)
          have h := g_nm eσ11 h
          obtain ⟨x12, ex12⟩ : ∃ y : Int32, y = l1_4 + 1 := ⟨_, rfl⟩
          have h := g_nm ex12 h
          refine lv_iinc (v := x12) (lv' := [(4, .int x12), (0, .ref (G.2.2.1 85)), (1, .int a1), (2, .int a2), (3, .int a3)]) hx hb dX7_prepare_53 hl (k := 0) rfl (by rw [ex12]; rfl) (by decide) rfl (fun ls hl => ?_)
          refine lv_goto (tgt := 3) hx hb dX7_prepare_56 (by decide) ?_
          exact ihL1 _ _ _ _ _ h hP hS (lv_sub hl [0, 1, 2, 3, 4] rfl)
  refine LPL1 _ (fun z13 σ14 H locs ls h hP hS hl => ?_) gFu _ _ _ _ _ h hP hS (lv_sub hl [0, 1, 2, 3, 4] rfl)
  refine lv_aload_n hx hb dX7_prepare_59 rfl (lv_at hl 1 rfl) ?_
  refine lv_iconst (v := 0) hx hb dX7_prepare_60 (by decide) ?_
  refine g_put hx hb ht hown hE hP hS (by decide) gE_85 uX7 tyX7_ok nmX7 rfl 7 (by decide) m_290 rfl rfl rfl rfl rfl (Nat.le_of_ble_eq_true rfl) rfl dX7_prepare_61 (fun H locs σ15 eσ15 hP hS => ?_)
  have h := g_nm eσ15 h
  refine lv_iload_n hx hb dX7_prepare_64 rfl (lv_at hl 2 rfl) ?_
  refine lv_istore (lv' := [(4, .int a1), (0, .ref (G.2.2.1 85)), (1, .int a1), (2, .int a2), (3, .int a3)]) hx hb dX7_prepare_65 hl (by decide) rfl (fun ls hl => ?_)
  have LPL16 : ∀ (kL16 : Int32 → gSt → gO), (∀ (l16_4 : Int32) (σL16 : gSt) (H : Heap) (locs : List Loc) (ls : Array Slot), kL16 l16_4 σL16 = some (r, σ') → gW G σL16 H → va_S (gA G) s.heap H locs → lv_has ls 5 [(4, .int l16_4), (0, .ref (G.2.2.1 85)), (1, .int a1), (2, .int a2), (3, .int a3)] → W p l e (gRm 3 74) s m ([.ref (G.2.2.1 85), .int a1, .int a2, .int a3].toArray) below meth c H locs 0 0 (MQ below (gQv G σ') ([.ref (G.2.2.1 85), .int a1, .int a2, .int a3].toArray) s 0 0 (gA G)) (F0 m 140 ls [])) → ∀ (nL16 : Nat) (l16_4 : Int32) (σL16 : gSt) (H : Heap) (locs : List Loc) (ls : Array Slot), L16_X7_prepare a1 a2 a3 nL16 l16_4 σL16 kL16 = some (r, σ') → gW G σL16 H → va_S (gA G) s.heap H locs → lv_has ls 5 [(4, .int l16_4), (0, .ref (G.2.2.1 85)), (1, .int a1), (2, .int a2), (3, .int a3)] → W p l e (gRm 3 74) s m ([.ref (G.2.2.1 85), .int a1, .int a2, .int a3].toArray) below meth c H locs 0 0 (MQ below (gQv G σ') ([.ref (G.2.2.1 85), .int a1, .int a2, .int a3].toArray) s 0 0 (gA G)) (F0 m 67 ls []) := by
    intro kL16 hKL16 nL16
    induction nL16 with
    | zero =>
      intro l16_4 σL16 H locs ls h
      cases h
    | succ nL16 ihL16 =>
      intro l16_4 σL16 H locs ls h hP hS hl
      rw [L16_X7_prepare] at h
      refine lv_aload_n hx hb dX7_prepare_67 rfl (lv_at hl 1 rfl) ?_
      refine g_get hx hb ht hown hE hP (by decide) gE_85 uX7 rfl 7 (by decide) m_290 rfl rfl dX7_prepare_68 ?_
      refine lv_bipush (v := 10) hx hb dX7_prepare_71 (by decide) ?_
      refine lv_icmp_ge (tgt := 140) hx hb dX7_prepare_73 (by decide) (fun c17 => ?_) (fun c17 => ?_)
      · have h := g_ift c17 h
        exact hKL16 _ _ _ _ _ h hP hS (lv_sub hl [0, 1, 2, 3, 4] rfl)
      · have h := g_iff c17 h
        refine lv_aload_n hx hb dX7_prepare_76 rfl (lv_at hl 1 rfl) ?_
        refine g_get hx hb ht hown hE hP (by decide) gE_85 uX7 rfl 0 (by decide) m_283 rfl rfl dX7_prepare_77 ?_
        refine g_get hx hb ht hown hE hP (by decide) gE_1 uX0 rfl 1 (by decide) m_249 rfl rfl dX7_prepare_80 ?_
        refine lv_iload hx hb dX7_prepare_83 (lv_at hl 0 rfl) ?_
        obtain ⟨r19, σ18, hcr19, h⟩ := g_bd h
        refine g_callV (As := [.int l16_4]) (n := 1) hx hb hml hown ht (c_X5_has l G _ _ hcr19) m_502 m_398 m_399 m_33 m_400 (by decide +kernel) (by decide) gE_11 rfl hE hP hS (fun _ h => h) (fun _ _ h => h) rfl hl.1 rfl (Nat.le_of_ble_eq_true rfl) dX7_prepare_85 ⟨by decide, by decide⟩ ⟨Nat.zero_le _, Nat.zero_le _⟩ (fun H locs hP hS => ?_)
        refine lv_if_eq (tgt := 140) hx hb dX7_prepare_88 (by decide) (fun c20 => ?_) (fun c20 => ?_)
        · have h := g_ift c20 h
          exact hKL16 _ _ _ _ _ h hP hS (lv_sub hl [0, 1, 2, 3, 4] rfl)
        · have h := g_iff c20 h
          refine lv_aload_n hx hb dX7_prepare_91 rfl (lv_at hl 1 rfl) ?_
          refine g_get hx hb ht hown hE hP (by decide) gE_85 uX7 rfl 2 (by decide) m_285 rfl rfl dX7_prepare_92 ?_
          refine lv_aload_n hx hb dX7_prepare_95 rfl (lv_at hl 1 rfl) ?_
          refine g_get hx hb ht hown hE hP (by decide) gE_85 uX7 rfl 7 (by decide) m_290 rfl rfl dX7_prepare_96 ?_
          refine lv_iload hx hb dX7_prepare_99 (lv_at hl 0 rfl) ?_
          obtain ⟨i21, h⟩ := g_ix h
          refine g_iast hx hb hE hP hS (by decide) rfl (by decide) i21 dX7_prepare_101 (fun H locs σ22 eσ22 hP hS => ?_)
          have h := g_nm eσ22 h
          refine lv_aload_n hx hb dX7_prepare_102 rfl (lv_at hl 1 rfl) ?_
          refine g_get hx hb ht hown hE hP (by decide) gE_85 uX7 rfl 3 (by decide) m_286 rfl rfl dX7_prepare_103 ?_
          refine lv_aload_n hx hb dX7_prepare_106 rfl (lv_at hl 1 rfl) ?_
          refine g_get hx hb ht hown hE hP (by decide) gE_85 uX7 rfl 7 (by decide) m_290 rfl rfl dX7_prepare_107 ?_
          refine lv_aload_n hx hb dX7_prepare_110 rfl (lv_at hl 1 rfl) ?_
          refine lv_iload hx hb dX7_prepare_111 (lv_at hl 0 rfl) ?_
          refine lv_iload_n hx hb dX7_prepare_113 rfl (lv_at hl 3 rfl) ?_
          obtain ⟨r24, σ23, hcr24, h⟩ := g_bd h
          refine g_callV (As := [.int l16_4, .int a2]) (n := 2) hx hb hml hown ht (c_X7_gainByBirth l G _ _ _ hcr24) m_503 m_505 m_4 m_38 m_506 (by decide +kernel) (by decide) gE_85 rfl hE hP hS (fun _ h => h) (fun _ _ h => h) rfl hl.1 rfl (Nat.le_of_ble_eq_true rfl) dX7_prepare_114 ⟨by decide, by decide⟩ ⟨Nat.zero_le _, Nat.zero_le _⟩ (fun H locs hP hS => ?_)
          obtain ⟨i25, h⟩ := g_ix h
          refine g_iast hx hb hE hP hS (by decide) rfl (by decide) i25 dX7_prepare_117 (fun H locs σ26 eσ26 hP hS => ?_)
          have h := g_nm eσ26 h
          refine lv_aload_n hx hb dX7_prepare_118 rfl (lv_at hl 1 rfl) ?_
          refine lv_dup hx hb dX7_prepare_119 rfl ?_
          refine g_get hx hb ht hown hE hP (by decide) gE_85 uX7 rfl 7 (by decide) m_290 rfl rfl dX7_prepare_120 ?_
          refine lv_iconst (v := 1) hx hb dX7_prepare_123 (by decide) ?_
          refine lv_iadd hx hb dX7_prepare_124 ?_
          refine g_put hx hb ht hown hE hP hS (by decide) gE_85 uX7 tyX7_ok nmX7 rfl 7 (by decide) m_290 rfl rfl rfl rfl rfl (Nat.le_of_ble_eq_true rfl) rfl dX7_prepare_125 (fun H locs σ27 eσ27 hP hS => ?_)
          have h := g_nm eσ27 h
          refine lv_aload_n hx hb dX7_prepare_128 rfl (lv_at hl 1 rfl) ?_
          refine lv_iload hx hb dX7_prepare_129 (lv_at hl 0 rfl) ?_
          refine lv_iload_n hx hb dX7_prepare_131 rfl (lv_at hl 3 rfl) ?_
          obtain ⟨r29, σ28, hcr29, h⟩ := g_bd h
          refine g_callV (As := [.int l16_4, .int a2]) (n := 2) hx hb hml hown ht (c_X7_leaderOf l G _ _ _ hcr29) m_511 m_513 m_5 m_38 m_514 (by decide +kernel) (by decide) gE_85 rfl hE hP hS (fun _ h => h) (fun _ _ h => h) rfl hl.1 rfl (Nat.le_of_ble_eq_true rfl) dX7_prepare_132 ⟨by decide, by decide⟩ ⟨Nat.zero_le _, Nat.zero_le _⟩ (fun H locs hP hS => ?_)
          refine lv_istore (lv' := [(4, .int r29), (0, .ref (G.2.2.1 85)), (1, .int a1), (2, .int a2), (3, .int a3)]) hx hb dX7_prepare_135 hl (by decide) rfl (fun ls hl => ?_)
          refine lv_goto (tgt := 67) hx hb dX7_prepare_137 (by decide) ?_
          exact ihL16 _ _ _ _ _ h hP hS (lv_sub hl [0, 1, 2, 3, 4] rfl)
  refine LPL16 _ (fun z30 σ31 H locs ls h hP hS hl => ?_) gFu _ _ _ _ _ h hP hS (lv_sub hl [0, 1, 2, 3, 4] rfl)
  exact g_vret (v := 0) (r := r) hx hb hr hlk hE hP hS h dX7_prepare_140

def L8_X7_ownParish (x2 a1 a2 : Int32) : Nat → Int32 → Int32 → Int32 → gSt → (Int32 → Int32 → Int32 → gSt → gO) → gO
  | 0, _, _, _, _, _ => none
  | nL8 + 1, l8_6, l8_5, l8_4, σL8, kL8 =>
    if (σL8 17 0) ≤ l8_6 then (kL8 l8_6 l8_5 l8_4 σL8) else (gIx 24 l8_6 (if (σL8 19 l8_6.toNatClampNeg) = x2 then (if ((a2 >>> (l8_6 &&& 31)) &&& 1) = 0 then (gIx 24 l8_6 (if (σL8 86 l8_6.toNatClampNeg) = (-1) then (gNm (l8_6 + 1 : Int32) (fun x20 => L8_X7_ownParish x2 a1 a2 nL8 x20 l8_5 l8_4 σL8 kL8)) else (gIx 24 l8_6 (if (σL8 86 l8_6.toNatClampNeg) < l8_4 then (gNm (l8_6 + 1 : Int32) (fun x23 => L8_X7_ownParish x2 a1 a2 nL8 x23 l8_5 l8_4 σL8 kL8)) else (gIx 24 l8_6 (gNm ((σL8 20 l8_6.toNatClampNeg) : Int32) (fun x25 => gIx 24 l8_6 (gNm ((σL8 86 l8_6.toNatClampNeg) : Int32) (fun x27 => gNm (l8_6 + 1 : Int32) (fun x28 => L8_X7_ownParish x2 a1 a2 nL8 x28 x25 x27 σL8 kL8)))))))))) else (gNm (l8_6 + 1 : Int32) (fun x16 => L8_X7_ownParish x2 a1 a2 nL8 x16 l8_5 l8_4 σL8 kL8))) else (gNm (l8_6 + 1 : Int32) (fun x13 => L8_X7_ownParish x2 a1 a2 nL8 x13 l8_5 l8_4 σL8 kL8))))
def L33_X7_ownParish (x2 a1 a2 : Int32) : Nat → Int32 → Int32 → Int32 → gSt → (Int32 → Int32 → Int32 → gSt → gO) → gO
  | 0, _, _, _, _, _ => none
  | nL33 + 1, l33_6, l33_5, l33_4, σL33, kL33 =>
    if (σL33 17 0) ≤ l33_6 then (kL33 l33_6 l33_5 l33_4 σL33) else (gIx 24 l33_6 (if (σL33 19 l33_6.toNatClampNeg) = x2 then (if ((a2 >>> (l33_6 &&& 31)) &&& 1) = 0 then (gIx 24 l33_6 (if (σL33 86 l33_6.toNatClampNeg) = (-1) then (gNm (l33_6 + 1 : Int32) (fun x45 => L33_X7_ownParish x2 a1 a2 nL33 x45 l33_5 l33_4 σL33 kL33)) else (gIx 24 l33_6 (if (σL33 86 l33_6.toNatClampNeg) < l33_4 then (gNm (l33_6 + 1 : Int32) (fun x48 => L33_X7_ownParish x2 a1 a2 nL33 x48 l33_5 l33_4 σL33 kL33)) else (gIx 24 l33_6 (gNm ((σL33 20 l33_6.toNatClampNeg) : Int32) (fun x50 => gIx 24 l33_6 (gNm ((σL33 86 l33_6.toNatClampNeg) : Int32) (fun x52 => gNm (l33_6 + 1 : Int32) (fun x53 => L33_X7_ownParish x2 a1 a2 nL33 x53 x50 x52 σL33 kL33)))))))))) else (gNm (l33_6 + 1 : Int32) (fun x41 => L33_X7_ownParish x2 a1 a2 nL33 x41 l33_5 l33_4 σL33 kL33))) else (gNm (l33_6 + 1 : Int32) (fun x38 => L33_X7_ownParish x2 a1 a2 nL33 x38 l33_5 l33_4 σL33 kL33))))
def M_X7_ownParish (a1 a2 : Int32) (σ : gSt) : gO :=
  gIx 10 a1 (gNm ((σ 87 a1.toNatClampNeg) : Int32) (fun x2 => gIx 10 a1 (gNm ((σ 88 a1.toNatClampNeg) : Int32) (fun x4 => if x4 = (-1) then (L33_X7_ownParish x2 a1 a2 gFu 0 (-1) x4 σ (fun z54 z55 z56 σ57 => some (z55, σ57))) else (gIx 10 x2 (gNm ((σ 13 x2.toNatClampNeg) : Int32) (fun x7 => L8_X7_ownParish x2 a1 a2 gFu 0 x7 x4 σ (fun z29 z30 z31 σ32 => some (z30, σ32)))))))))
set_option maxHeartbeats 4000000 in
set_option maxRecDepth 100000 in
theorem c_X7_ownParish (l : Launch) (G : gPar) (a1 a2 : Int32) (σ : gSt) {r : Int32} {σ' : gSt} (h : M_X7_ownParish a1 a2 σ = some (r, σ')) : gC l G yX7_ownParish cX7_ownParish 8 (some .int) 0 0 [.ref (G.2.2.1 85), .int a1, .int a2] σ r σ' := by
  refine gC_of (by decide) (Nat.le_of_ble_eq_true rfl) ?_
  intro p e s m below meth c hx hb hr ht hown hlk hml hE hP ls hl
  have hS : va_S (gA G) s.heap s.heap [] := va_S.rf
  have hl : lv_has ls 8 [(0, .ref (G.2.2.1 85)), (1, .int a1), (2, .int a2)] := hl
  unfold M_X7_ownParish at h
  refine lv_aload_n hx hb dX7_ownParish_0 rfl (lv_at hl 0 rfl) ?_
  refine g_get hx hb ht hown hE hP (by decide) gE_85 uX7 rfl 2 (by decide) m_285 rfl rfl dX7_ownParish_1 ?_
  refine lv_iload_n hx hb dX7_ownParish_4 rfl (lv_at hl 1 rfl) ?_
  obtain ⟨i1, h⟩ := g_ix h
  refine g_iald hx hb hE hP (by decide) rfl (by decide) i1 dX7_ownParish_5 ?_
  refine lv_topi (fun x2 ex2 => ?_)
  have h := g_nm ex2 h
  refine lv_istore_n (lv' := [(3, .int x2), (0, .ref (G.2.2.1 85)), (1, .int a1), (2, .int a2)]) hx hb dX7_ownParish_6 rfl hl (by decide) rfl (fun ls hl => ?_)
  refine lv_aload_n hx hb dX7_ownParish_7 rfl (lv_at hl 1 rfl) ?_
  refine g_get hx hb ht hown hE hP (by decide) gE_85 uX7 rfl 3 (by decide) m_286 rfl rfl dX7_ownParish_8 ?_
  refine lv_iload_n hx hb dX7_ownParish_11 rfl (lv_at hl 2 rfl) ?_
  obtain ⟨i3, h⟩ := g_ix h
  refine g_iald hx hb hE hP (by decide) rfl (by decide) i3 dX7_ownParish_12 ?_
  refine lv_topi (fun x4 ex4 => ?_)
  have h := g_nm ex4 h
  refine lv_istore (lv' := [(4, .int x4), (3, .int x2), (0, .ref (G.2.2.1 85)), (1, .int a1), (2, .int a2)]) hx hb dX7_ownParish_13 hl (by decide) rfl (fun ls hl => ?_)
  refine lv_iload hx hb dX7_ownParish_15 (lv_at hl 0 rfl) ?_
  refine lv_iconst (v := (-1)) hx hb dX7_ownParish_17 (by decide) ?_
  refine lv_icmp_ne (tgt := 25) hx hb dX7_ownParish_18 (by decide) (fun c5 => ?_) (fun c5 => ?_)
  · have h := g_iff c5 h
    refine lv_aload_n hx hb dX7_ownParish_25 rfl (lv_at hl 2 rfl) ?_
    refine g_get hx hb ht hown hE hP (by decide) gE_85 uX7 rfl 0 (by decide) m_283 rfl rfl dX7_ownParish_26 ?_
    refine g_get hx hb ht hown hE hP (by decide) gE_1 uX0 rfl 1 (by decide) m_249 rfl rfl dX7_ownParish_29 ?_
    refine g_get hx hb ht hown hE hP (by decide) gE_11 uX5 rfl 2 (by decide) m_93 rfl rfl dX7_ownParish_32 ?_
    refine lv_iload_n hx hb dX7_ownParish_35 rfl (lv_at hl 1 rfl) ?_
    obtain ⟨i6, h⟩ := g_ix h
    refine g_iald hx hb hE hP (by decide) rfl (by decide) i6 dX7_ownParish_36 ?_
    refine lv_topi (fun x7 ex7 => ?_)
    have h := g_nm ex7 h
    refine lv_istore (lv' := [(5, .int x7), (4, .int x4), (3, .int x2), (0, .ref (G.2.2.1 85)), (1, .int a1), (2, .int a2)]) hx hb dX7_ownParish_37 hl (by decide) rfl (fun ls hl => ?_)
    refine lv_iconst (v := 0) hx hb dX7_ownParish_39 (by decide) ?_
    refine lv_istore (lv' := [(6, .int 0), (5, .int x7), (4, .int x4), (3, .int x2), (0, .ref (G.2.2.1 85)), (1, .int a1), (2, .int a2)]) hx hb dX7_ownParish_40 hl (by decide) rfl (fun ls hl => ?_)
    have LPL8 : ∀ (kL8 : Int32 → Int32 → Int32 → gSt → gO), (∀ (l8_6 l8_5 l8_4 : Int32) (σL8 : gSt) (H : Heap) (locs : List Loc) (ls : Array Slot), kL8 l8_6 l8_5 l8_4 σL8 = some (r, σ') → gW G σL8 H → va_S (gA G) s.heap H locs → lv_has ls 8 [(6, .int l8_6), (5, .int l8_5), (4, .int l8_4), (3, .int x2), (0, .ref (G.2.2.1 85)), (1, .int a1), (2, .int a2)] → W p l e (gRm 0 0) s m ([.ref (G.2.2.1 85), .int a1, .int a2].toArray) below meth c H locs 0 0 (MQ below (gQ G r σ') ([.ref (G.2.2.1 85), .int a1, .int a2].toArray) s 0 0 (gA G)) (F0 m 148 ls [])) → ∀ (nL8 : Nat) (l8_6 l8_5 l8_4 : Int32) (σL8 : gSt) (H : Heap) (locs : List Loc) (ls : Array Slot), L8_X7_ownParish x2 a1 a2 nL8 l8_6 l8_5 l8_4 σL8 kL8 = some (r, σ') → gW G σL8 H → va_S (gA G) s.heap H locs → lv_has ls 8 [(6, .int l8_6), (5, .int l8_5), (4, .int l8_4), (3, .int x2), (0, .ref (G.2.2.1 85)), (1, .int a1), (2, .int a2)] → W p l e (gRm 0 0) s m ([.ref (G.2.2.1 85), .int a1, .int a2].toArray) below meth c H locs 0 0 (MQ below (gQ G r σ') ([.ref (G.2.2.1 85), .int a1, .int a2].toArray) s 0 0 (gA G)) (F0 m 42 ls []) := by
      intro kL8 hKL8 nL8
      induction nL8 with
      | zero =>
        intro l8_6 l8_5 l8_4 σL8 H locs ls h
        cases h
      | succ nL8 ihL8 =>
        intro l8_6 l8_5 l8_4 σL8 H locs ls h hP hS hl
        rw [L8_X7_ownParish] at h
        refine lv_iload hx hb dX7_ownParish_42 (lv_at hl 0 rfl) ?_
        refine lv_aload_n hx hb dX7_ownParish_44 rfl (lv_at hl 4 rfl) ?_
        refine g_get hx hb ht hown hE hP (by decide) gE_85 uX7 rfl 0 (by decide) m_283 rfl rfl dX7_ownParish_45 ?_
        refine g_get hx hb ht hown hE hP (by decide) gE_1 uX0 rfl 2 (by decide) m_251 rfl rfl dX7_ownParish_48 ?_
        refine g_get hx hb ht hown hE hP (by decide) gE_17 uX1 rfl 0 (by decide) m_121 rfl rfl dX7_ownParish_51 ?_
        refine lv_icmp_ge (tgt := 148) hx hb dX7_ownParish_54 (by decide) (fun c9 => ?_) (fun c9 => ?_)
        · have h := g_ift c9 h
          exact hKL8 _ _ _ _ _ _ _ h hP hS (lv_sub hl [0, 1, 2, 3, 4, 5, 6] rfl)
        · have h := g_iff c9 h
          refine lv_aload_n hx hb dX7_ownParish_57 rfl (lv_at hl 4 rfl) ?_
          refine g_get hx hb ht hown hE hP (by decide) gE_85 uX7 rfl 0 (by decide) m_283 rfl rfl dX7_ownParish_58 ?_
          refine g_get hx hb ht hown hE hP (by decide) gE_1 uX0 rfl 2 (by decide) m_251 rfl rfl dX7_ownParish_61 ?_
          refine g_get hx hb ht hown hE hP (by decide) gE_17 uX1 rfl 2 (by decide) m_126 rfl rfl dX7_ownParish_64 ?_
          refine lv_iload hx hb dX7_ownParish_67 (lv_at hl 0 rfl) ?_
          obtain ⟨i10, h⟩ := g_ix h
          refine g_iald hx hb hE hP (by decide) rfl (by decide) i10 dX7_ownParish_69 ?_
          refine lv_iload_n hx hb dX7_ownParish_70 rfl (lv_at hl 3 rfl) ?_
          refine lv_icmp_ne (tgt := 87) hx hb dX7_ownParish_71 (by decide) (fun c11 => ?_) (fun c11 => ?_)
          · have h := g_iff c11 h
            refine lv_iconst (v := 0) hx hb dX7_ownParish_87 (by decide) ?_
            refine lv_istore (lv' := [(7, .int 0), (6, .int l8_6), (5, .int l8_5), (4, .int l8_4), (3, .int x2), (0, .ref (G.2.2.1 85)), (1, .int a1), (2, .int a2)]) hx hb dX7_ownParish_88 hl (by decide) rfl (fun ls hl => ?_)
            refine lv_iload hx hb dX7_ownParish_90 (lv_at hl 0 rfl) ?_
            refine lv_if_eq (tgt := 142) hx hb dX7_ownParish_92 (by decide) (fun _ => ?_) (fun c12 => absurd (by decide) c12)
            obtain ⟨x13, ex13⟩ : ∃ y : Int32, y = l8_6 + 1 := ⟨_, rfl⟩
            have h := g_nm ex13 h
            refine lv_iinc (v := x13) (lv' := [(6, .int x13), (7, .int 0), (5, .int l8_5), (4, .int l8_4), (3, .int x2), (0, .ref (G.2.2.1 85)), (1, .int a1), (2, .int a2)]) hx hb dX7_ownParish_142 hl (k := 1) rfl (by rw [ex13]; rfl) (by decide) rfl (fun ls hl => ?_)
            refine lv_goto (tgt := 42) hx hb dX7_ownParish_145 (by decide) ?_
            exact ihL8 _ _ _ _ _ _ _ h hP hS (lv_sub hl [0, 2, 3, 4, 5, 6, 7] rfl)
          · have h := g_ift c11 h
            refine lv_iload_n hx hb dX7_ownParish_74 rfl (lv_at hl 6 rfl) ?_
            refine lv_iload hx hb dX7_ownParish_75 (lv_at hl 0 rfl) ?_
            refine lv_ishr hx hb dX7_ownParish_77 ?_
            refine lv_iconst (v := 1) hx hb dX7_ownParish_78 (by decide) ?_
            refine lv_iand hx hb dX7_ownParish_79 ?_
            refine lv_if_ne (tgt := 87) hx hb dX7_ownParish_80 (by decide) (fun c14 => ?_) (fun c14 => ?_)
            · have h := g_iff c14 h
              refine lv_iconst (v := 0) hx hb dX7_ownParish_87 (by decide) ?_
              refine lv_istore (lv' := [(7, .int 0), (6, .int l8_6), (5, .int l8_5), (4, .int l8_4), (3, .int x2), (0, .ref (G.2.2.1 85)), (1, .int a1), (2, .int a2)]) hx hb dX7_ownParish_88 hl (by decide) rfl (fun ls hl => ?_)
              refine lv_iload hx hb dX7_ownParish_90 (lv_at hl 0 rfl) ?_
              refine lv_if_eq (tgt := 142) hx hb dX7_ownParish_92 (by decide) (fun _ => ?_) (fun c15 => absurd (by decide) c15)
              obtain ⟨x16, ex16⟩ : ∃ y : Int32, y = l8_6 + 1 := ⟨_, rfl⟩
              have h := g_nm ex16 h
              refine lv_iinc (v := x16) (lv' := [(6, .int x16), (7, .int 0), (5, .int l8_5), (4, .int l8_4), (3, .int x2), (0, .ref (G.2.2.1 85)), (1, .int a1), (2, .int a2)]) hx hb dX7_ownParish_142 hl (k := 1) rfl (by rw [ex16]; rfl) (by decide) rfl (fun ls hl => ?_)
              refine lv_goto (tgt := 42) hx hb dX7_ownParish_145 (by decide) ?_
              exact ihL8 _ _ _ _ _ _ _ h hP hS (lv_sub hl [0, 2, 3, 4, 5, 6, 7] rfl)
            · have h := g_ift c14 h
              refine lv_iconst (v := 1) hx hb dX7_ownParish_83 (by decide) ?_
              refine lv_goto (tgt := 88) hx hb dX7_ownParish_84 (by decide) ?_
              refine lv_istore (lv' := [(7, .int 1), (6, .int l8_6), (5, .int l8_5), (4, .int l8_4), (3, .int x2), (0, .ref (G.2.2.1 85)), (1, .int a1), (2, .int a2)]) hx hb dX7_ownParish_88 hl (by decide) rfl (fun ls hl => ?_)
              refine lv_iload hx hb dX7_ownParish_90 (lv_at hl 0 rfl) ?_
              refine lv_if_eq (tgt := 142) hx hb dX7_ownParish_92 (by decide) (fun c17 => absurd c17 (by decide)) (fun _ => ?_)
              refine lv_aload_n hx hb dX7_ownParish_95 rfl (lv_at hl 5 rfl) ?_
              refine g_get hx hb ht hown hE hP (by decide) gE_85 uX7 rfl 1 (by decide) m_284 rfl rfl dX7_ownParish_96 ?_
              refine lv_iload hx hb dX7_ownParish_99 (lv_at hl 1 rfl) ?_
              obtain ⟨i18, h⟩ := g_ix h
              refine g_iald hx hb hE hP (by decide) rfl (by decide) i18 dX7_ownParish_101 ?_
              refine lv_iconst (v := (-1)) hx hb dX7_ownParish_102 (by decide) ?_
              refine lv_icmp_eq (tgt := 142) hx hb dX7_ownParish_103 (by decide) (fun c19 => ?_) (fun c19 => ?_)
              · have h := g_ift c19 h
                obtain ⟨x20, ex20⟩ : ∃ y : Int32, y = l8_6 + 1 := ⟨_, rfl⟩
                have h := g_nm ex20 h
                refine lv_iinc (v := x20) (lv' := [(6, .int x20), (7, .int 1), (5, .int l8_5), (4, .int l8_4), (3, .int x2), (0, .ref (G.2.2.1 85)), (1, .int a1), (2, .int a2)]) hx hb dX7_ownParish_142 hl (k := 1) rfl (by rw [ex20]; rfl) (by decide) rfl (fun ls hl => ?_)
                refine lv_goto (tgt := 42) hx hb dX7_ownParish_145 (by decide) ?_
                exact ihL8 _ _ _ _ _ _ _ h hP hS (lv_sub hl [0, 2, 3, 4, 5, 6, 7] rfl)
              · have h := g_iff c19 h
                refine lv_aload_n hx hb dX7_ownParish_106 rfl (lv_at hl 5 rfl) ?_
                refine g_get hx hb ht hown hE hP (by decide) gE_85 uX7 rfl 1 (by decide) m_284 rfl rfl dX7_ownParish_107 ?_
                refine lv_iload hx hb dX7_ownParish_110 (lv_at hl 1 rfl) ?_
                obtain ⟨i21, h⟩ := g_ix h
                refine g_iald hx hb hE hP (by decide) rfl (by decide) i21 dX7_ownParish_112 ?_
                refine lv_iload hx hb dX7_ownParish_113 (lv_at hl 3 rfl) ?_
                refine lv_icmp_lt (tgt := 142) hx hb dX7_ownParish_115 (by decide) (fun c22 => ?_) (fun c22 => ?_)
                · have h := g_ift c22 h
                  obtain ⟨x23, ex23⟩ : ∃ y : Int32, y = l8_6 + 1 := ⟨_, rfl⟩
                  have h := g_nm ex23 h
                  refine lv_iinc (v := x23) (lv' := [(6, .int x23), (7, .int 1), (5, .int l8_5), (4, .int l8_4), (3, .int x2), (0, .ref (G.2.2.1 85)), (1, .int a1), (2, .int a2)]) hx hb dX7_ownParish_142 hl (k := 1) rfl (by rw [ex23]; rfl) (by decide) rfl (fun ls hl => ?_)
                  refine lv_goto (tgt := 42) hx hb dX7_ownParish_145 (by decide) ?_
                  exact ihL8 _ _ _ _ _ _ _ h hP hS (lv_sub hl [0, 2, 3, 4, 5, 6, 7] rfl)
                · have h := g_iff c22 h
                  refine lv_aload_n hx hb dX7_ownParish_118 rfl (lv_at hl 5 rfl) ?_
                  refine g_get hx hb ht hown hE hP (by decide) gE_85 uX7 rfl 0 (by decide) m_283 rfl rfl dX7_ownParish_119 ?_
                  refine g_get hx hb ht hown hE hP (by decide) gE_1 uX0 rfl 2 (by decide) m_251 rfl rfl dX7_ownParish_122 ?_
                  refine g_get hx hb ht hown hE hP (by decide) gE_17 uX1 rfl 3 (by decide) m_128 rfl rfl dX7_ownParish_125 ?_
                  refine lv_iload hx hb dX7_ownParish_128 (lv_at hl 1 rfl) ?_
                  obtain ⟨i24, h⟩ := g_ix h
                  refine g_iald hx hb hE hP (by decide) rfl (by decide) i24 dX7_ownParish_130 ?_
                  refine lv_topi (fun x25 ex25 => ?_)
                  have h := g_nm ex25 h
                  refine lv_istore (lv' := [(5, .int x25), (7, .int 1), (6, .int l8_6), (4, .int l8_4), (3, .int x2), (0, .ref (G.2.2.1 85)), (1, .int a1), (2, .int a2)]) hx hb dX7_ownParish_131 hl (by decide) rfl (fun ls hl => ?_)
                  refine lv_aload_n hx hb dX7_ownParish_133 rfl (lv_at hl 5 rfl) ?_
                  refine g_get hx hb ht hown hE hP (by decide) gE_85 uX7 rfl 1 (by decide) m_284 rfl rfl dX7_ownParish_134 ?_
                  refine lv_iload hx hb dX7_ownParish_137 (lv_at hl 2 rfl) ?_
                  obtain ⟨i26, h⟩ := g_ix h
                  refine g_iald hx hb hE hP (by decide) rfl (by decide) i26 dX7_ownParish_139 ?_
                  refine lv_topi (fun x27 ex27 => ?_)
                  have h := g_nm ex27 h
                  refine lv_istore (lv' := [(4, .int x27), (5, .int x25), (7, .int 1), (6, .int l8_6), (3, .int x2), (0, .ref (G.2.2.1 85)), (1, .int a1), (2, .int a2)]) hx hb dX7_ownParish_140 hl (by decide) rfl (fun ls hl => ?_)
                  obtain ⟨x28, ex28⟩ : ∃ y : Int32, y = l8_6 + 1 := ⟨_, rfl⟩
                  have h := g_nm ex28 h
                  refine lv_iinc (v := x28) (lv' := [(6, .int x28), (4, .int x27), (5, .int x25), (7, .int 1), (3, .int x2), (0, .ref (G.2.2.1 85)), (1, .int a1), (2, .int a2)]) hx hb dX7_ownParish_142 hl (k := 3) rfl (by rw [ex28]; rfl) (by decide) rfl (fun ls hl => ?_)
                  refine lv_goto (tgt := 42) hx hb dX7_ownParish_145 (by decide) ?_
                  exact ihL8 _ _ _ _ _ _ _ h hP hS (lv_sub hl [0, 2, 1, 4, 5, 6, 7] rfl)
    refine LPL8 _ (fun z29 z30 z31 σ32 H locs ls h hP hS hl => ?_) gFu _ _ _ _ _ _ _ h hP hS (lv_sub hl [0, 1, 2, 3, 4, 5, 6] rfl)
    refine lv_iload hx hb dX7_ownParish_148 (lv_at hl 1 rfl) ?_
    exact g_iret hx hb hr hlk hE hP hS h dX7_ownParish_150
  · have h := g_ift c5 h
    refine lv_iconst (v := (-1)) hx hb dX7_ownParish_21 (by decide) ?_
    refine lv_goto (tgt := 37) hx hb dX7_ownParish_22 (by decide) ?_
    refine lv_istore (lv' := [(5, .int (-1)), (4, .int x4), (3, .int x2), (0, .ref (G.2.2.1 85)), (1, .int a1), (2, .int a2)]) hx hb dX7_ownParish_37 hl (by decide) rfl (fun ls hl => ?_)
    refine lv_iconst (v := 0) hx hb dX7_ownParish_39 (by decide) ?_
    refine lv_istore (lv' := [(6, .int 0), (5, .int (-1)), (4, .int x4), (3, .int x2), (0, .ref (G.2.2.1 85)), (1, .int a1), (2, .int a2)]) hx hb dX7_ownParish_40 hl (by decide) rfl (fun ls hl => ?_)
    have LPL33 : ∀ (kL33 : Int32 → Int32 → Int32 → gSt → gO), (∀ (l33_6 l33_5 l33_4 : Int32) (σL33 : gSt) (H : Heap) (locs : List Loc) (ls : Array Slot), kL33 l33_6 l33_5 l33_4 σL33 = some (r, σ') → gW G σL33 H → va_S (gA G) s.heap H locs → lv_has ls 8 [(6, .int l33_6), (5, .int l33_5), (4, .int l33_4), (3, .int x2), (0, .ref (G.2.2.1 85)), (1, .int a1), (2, .int a2)] → W p l e (gRm 0 0) s m ([.ref (G.2.2.1 85), .int a1, .int a2].toArray) below meth c H locs 0 0 (MQ below (gQ G r σ') ([.ref (G.2.2.1 85), .int a1, .int a2].toArray) s 0 0 (gA G)) (F0 m 148 ls [])) → ∀ (nL33 : Nat) (l33_6 l33_5 l33_4 : Int32) (σL33 : gSt) (H : Heap) (locs : List Loc) (ls : Array Slot), L33_X7_ownParish x2 a1 a2 nL33 l33_6 l33_5 l33_4 σL33 kL33 = some (r, σ') → gW G σL33 H → va_S (gA G) s.heap H locs → lv_has ls 8 [(6, .int l33_6), (5, .int l33_5), (4, .int l33_4), (3, .int x2), (0, .ref (G.2.2.1 85)), (1, .int a1), (2, .int a2)] → W p l e (gRm 0 0) s m ([.ref (G.2.2.1 85), .int a1, .int a2].toArray) below meth c H locs 0 0 (MQ below (gQ G r σ') ([.ref (G.2.2.1 85), .int a1, .int a2].toArray) s 0 0 (gA G)) (F0 m 42 ls []) := by
      intro kL33 hKL33 nL33
      induction nL33 with
      | zero =>
        intro l33_6 l33_5 l33_4 σL33 H locs ls h
        cases h
      | succ nL33 ihL33 =>
        intro l33_6 l33_5 l33_4 σL33 H locs ls h hP hS hl
        rw [L33_X7_ownParish] at h
        refine lv_iload hx hb dX7_ownParish_42 (lv_at hl 0 rfl) ?_
        refine lv_aload_n hx hb dX7_ownParish_44 rfl (lv_at hl 4 rfl) ?_
        refine g_get hx hb ht hown hE hP (by decide) gE_85 uX7 rfl 0 (by decide) m_283 rfl rfl dX7_ownParish_45 ?_
        refine g_get hx hb ht hown hE hP (by decide) gE_1 uX0 rfl 2 (by decide) m_251 rfl rfl dX7_ownParish_48 ?_
        refine g_get hx hb ht hown hE hP (by decide) gE_17 uX1 rfl 0 (by decide) m_121 rfl rfl dX7_ownParish_51 ?_
        refine lv_icmp_ge (tgt := 148) hx hb dX7_ownParish_54 (by decide) (fun c34 => ?_) (fun c34 => ?_)
        · have h := g_ift c34 h
          exact hKL33 _ _ _ _ _ _ _ h hP hS (lv_sub hl [0, 1, 2, 3, 4, 5, 6] rfl)
        · have h := g_iff c34 h
          refine lv_aload_n hx hb dX7_ownParish_57 rfl (lv_at hl 4 rfl) ?_
          refine g_get hx hb ht hown hE hP (by decide) gE_85 uX7 rfl 0 (by decide) m_283 rfl rfl dX7_ownParish_58 ?_
          refine g_get hx hb ht hown hE hP (by decide) gE_1 uX0 rfl 2 (by decide) m_251 rfl rfl dX7_ownParish_61 ?_
          refine g_get hx hb ht hown hE hP (by decide) gE_17 uX1 rfl 2 (by decide) m_126 rfl rfl dX7_ownParish_64 ?_
          refine lv_iload hx hb dX7_ownParish_67 (lv_at hl 0 rfl) ?_
          obtain ⟨i35, h⟩ := g_ix h
          refine g_iald hx hb hE hP (by decide) rfl (by decide) i35 dX7_ownParish_69 ?_
          refine lv_iload_n hx hb dX7_ownParish_70 rfl (lv_at hl 3 rfl) ?_
          refine lv_icmp_ne (tgt := 87) hx hb dX7_ownParish_71 (by decide) (fun c36 => ?_) (fun c36 => ?_)
          · have h := g_iff c36 h
            refine lv_iconst (v := 0) hx hb dX7_ownParish_87 (by decide) ?_
            refine lv_istore (lv' := [(7, .int 0), (6, .int l33_6), (5, .int l33_5), (4, .int l33_4), (3, .int x2), (0, .ref (G.2.2.1 85)), (1, .int a1), (2, .int a2)]) hx hb dX7_ownParish_88 hl (by decide) rfl (fun ls hl => ?_)
            refine lv_iload hx hb dX7_ownParish_90 (lv_at hl 0 rfl) ?_
            refine lv_if_eq (tgt := 142) hx hb dX7_ownParish_92 (by decide) (fun _ => ?_) (fun c37 => absurd (by decide) c37)
            obtain ⟨x38, ex38⟩ : ∃ y : Int32, y = l33_6 + 1 := ⟨_, rfl⟩
            have h := g_nm ex38 h
            refine lv_iinc (v := x38) (lv' := [(6, .int x38), (7, .int 0), (5, .int l33_5), (4, .int l33_4), (3, .int x2), (0, .ref (G.2.2.1 85)), (1, .int a1), (2, .int a2)]) hx hb dX7_ownParish_142 hl (k := 1) rfl (by rw [ex38]; rfl) (by decide) rfl (fun ls hl => ?_)
            refine lv_goto (tgt := 42) hx hb dX7_ownParish_145 (by decide) ?_
            exact ihL33 _ _ _ _ _ _ _ h hP hS (lv_sub hl [0, 2, 3, 4, 5, 6, 7] rfl)
          · have h := g_ift c36 h
            refine lv_iload_n hx hb dX7_ownParish_74 rfl (lv_at hl 6 rfl) ?_
            refine lv_iload hx hb dX7_ownParish_75 (lv_at hl 0 rfl) ?_
            refine lv_ishr hx hb dX7_ownParish_77 ?_
            refine lv_iconst (v := 1) hx hb dX7_ownParish_78 (by decide) ?_
            refine lv_iand hx hb dX7_ownParish_79 ?_
            refine lv_if_ne (tgt := 87) hx hb dX7_ownParish_80 (by decide) (fun c39 => ?_) (fun c39 => ?_)
            · have h := g_iff c39 h
              refine lv_iconst (v := 0) hx hb dX7_ownParish_87 (by decide) ?_
              refine lv_istore (lv' := [(7, .int 0), (6, .int l33_6), (5, .int l33_5), (4, .int l33_4), (3, .int x2), (0, .ref (G.2.2.1 85)), (1, .int a1), (2, .int a2)]) hx hb dX7_ownParish_88 hl (by decide) rfl (fun ls hl => ?_)
              refine lv_iload hx hb dX7_ownParish_90 (lv_at hl 0 rfl) ?_
              refine lv_if_eq (tgt := 142) hx hb dX7_ownParish_92 (by decide) (fun _ => ?_) (fun c40 => absurd (by decide) c40)
              obtain ⟨x41, ex41⟩ : ∃ y : Int32, y = l33_6 + 1 := ⟨_, rfl⟩
              have h := g_nm ex41 h
              refine lv_iinc (v := x41) (lv' := [(6, .int x41), (7, .int 0), (5, .int l33_5), (4, .int l33_4), (3, .int x2), (0, .ref (G.2.2.1 85)), (1, .int a1), (2, .int a2)]) hx hb dX7_ownParish_142 hl (k := 1) rfl (by rw [ex41]; rfl) (by decide) rfl (fun ls hl => ?_)
              refine lv_goto (tgt := 42) hx hb dX7_ownParish_145 (by decide) ?_
              exact ihL33 _ _ _ _ _ _ _ h hP hS (lv_sub hl [0, 2, 3, 4, 5, 6, 7] rfl)
            · have h := g_ift c39 h
              refine lv_iconst (v := 1) hx hb dX7_ownParish_83 (by decide) ?_
              refine lv_goto (tgt := 88) hx hb dX7_ownParish_84 (by decide) ?_
              refine lv_istore (lv' := [(7, .int 1), (6, .int l33_6), (5, .int l33_5), (4, .int l33_4), (3, .int x2), (0, .ref (G.2.2.1 85)), (1, .int a1), (2, .int a2)]) hx hb dX7_ownParish_88 hl (by decide) rfl (fun ls hl => ?_)
              refine lv_iload hx hb dX7_ownParish_90 (lv_at hl 0 rfl) ?_
              refine lv_if_eq (tgt := 142) hx hb dX7_ownParish_92 (by decide) (fun c42 => absurd c42 (by decide)) (fun _ => ?_)
              refine lv_aload_n hx hb dX7_ownParish_95 rfl (lv_at hl 5 rfl) ?_
              refine g_get hx hb ht hown hE hP (by decide) gE_85 uX7 rfl 1 (by decide) m_284 rfl rfl dX7_ownParish_96 ?_
              refine lv_iload hx hb dX7_ownParish_99 (lv_at hl 1 rfl) ?_
              obtain ⟨i43, h⟩ := g_ix h
              refine g_iald hx hb hE hP (by decide) rfl (by decide) i43 dX7_ownParish_101 ?_
              refine lv_iconst (v := (-1)) hx hb dX7_ownParish_102 (by decide) ?_
              refine lv_icmp_eq (tgt := 142) hx hb dX7_ownParish_103 (by decide) (fun c44 => ?_) (fun c44 => ?_)
              · have h := g_ift c44 h
                obtain ⟨x45, ex45⟩ : ∃ y : Int32, y = l33_6 + 1 := ⟨_, rfl⟩
                have h := g_nm ex45 h
                refine lv_iinc (v := x45) (lv' := [(6, .int x45), (7, .int 1), (5, .int l33_5), (4, .int l33_4), (3, .int x2), (0, .ref (G.2.2.1 85)), (1, .int a1), (2, .int a2)]) hx hb dX7_ownParish_142 hl (k := 1) rfl (by rw [ex45]; rfl) (by decide) rfl (fun ls hl => ?_)
                refine lv_goto (tgt := 42) hx hb dX7_ownParish_145 (by decide) ?_
                exact ihL33 _ _ _ _ _ _ _ h hP hS (lv_sub hl [0, 2, 3, 4, 5, 6, 7] rfl)
              · have h := g_iff c44 h
                refine lv_aload_n hx hb dX7_ownParish_106 rfl (lv_at hl 5 rfl) ?_
                refine g_get hx hb ht hown hE hP (by decide) gE_85 uX7 rfl 1 (by decide) m_284 rfl rfl dX7_ownParish_107 ?_
                refine lv_iload hx hb dX7_ownParish_110 (lv_at hl 1 rfl) ?_
                obtain ⟨i46, h⟩ := g_ix h
                refine g_iald hx hb hE hP (by decide) rfl (by decide) i46 dX7_ownParish_112 ?_
                refine lv_iload hx hb dX7_ownParish_113 (lv_at hl 3 rfl) ?_
                refine lv_icmp_lt (tgt := 142) hx hb dX7_ownParish_115 (by decide) (fun c47 => ?_) (fun c47 => ?_)
                · have h := g_ift c47 h
                  obtain ⟨x48, ex48⟩ : ∃ y : Int32, y = l33_6 + 1 := ⟨_, rfl⟩
                  have h := g_nm ex48 h
                  refine lv_iinc (v := x48) (lv' := [(6, .int x48), (7, .int 1), (5, .int l33_5), (4, .int l33_4), (3, .int x2), (0, .ref (G.2.2.1 85)), (1, .int a1), (2, .int a2)]) hx hb dX7_ownParish_142 hl (k := 1) rfl (by rw [ex48]; rfl) (by decide) rfl (fun ls hl => ?_)
                  refine lv_goto (tgt := 42) hx hb dX7_ownParish_145 (by decide) ?_
                  exact ihL33 _ _ _ _ _ _ _ h hP hS (lv_sub hl [0, 2, 3, 4, 5, 6, 7] rfl)
                · have h := g_iff c47 h
                  refine lv_aload_n hx hb dX7_ownParish_118 rfl (lv_at hl 5 rfl) ?_
                  refine g_get hx hb ht hown hE hP (by decide) gE_85 uX7 rfl 0 (by decide) m_283 rfl rfl dX7_ownParish_119 ?_
                  refine g_get hx hb ht hown hE hP (by decide) gE_1 uX0 rfl 2 (by decide) m_251 rfl rfl dX7_ownParish_122 ?_
                  refine g_get hx hb ht hown hE hP (by decide) gE_17 uX1 rfl 3 (by decide) m_128 rfl rfl dX7_ownParish_125 ?_
                  refine lv_iload hx hb dX7_ownParish_128 (lv_at hl 1 rfl) ?_
                  obtain ⟨i49, h⟩ := g_ix h
                  refine g_iald hx hb hE hP (by decide) rfl (by decide) i49 dX7_ownParish_130 ?_
                  refine lv_topi (fun x50 ex50 => ?_)
                  have h := g_nm ex50 h
                  refine lv_istore (lv' := [(5, .int x50), (7, .int 1), (6, .int l33_6), (4, .int l33_4), (3, .int x2), (0, .ref (G.2.2.1 85)), (1, .int a1), (2, .int a2)]) hx hb dX7_ownParish_131 hl (by decide) rfl (fun ls hl => ?_)
                  refine lv_aload_n hx hb dX7_ownParish_133 rfl (lv_at hl 5 rfl) ?_
                  refine g_get hx hb ht hown hE hP (by decide) gE_85 uX7 rfl 1 (by decide) m_284 rfl rfl dX7_ownParish_134 ?_
                  refine lv_iload hx hb dX7_ownParish_137 (lv_at hl 2 rfl) ?_
                  obtain ⟨i51, h⟩ := g_ix h
                  refine g_iald hx hb hE hP (by decide) rfl (by decide) i51 dX7_ownParish_139 ?_
                  refine lv_topi (fun x52 ex52 => ?_)
                  have h := g_nm ex52 h
                  refine lv_istore (lv' := [(4, .int x52), (5, .int x50), (7, .int 1), (6, .int l33_6), (3, .int x2), (0, .ref (G.2.2.1 85)), (1, .int a1), (2, .int a2)]) hx hb dX7_ownParish_140 hl (by decide) rfl (fun ls hl => ?_)
                  obtain ⟨x53, ex53⟩ : ∃ y : Int32, y = l33_6 + 1 := ⟨_, rfl⟩
                  have h := g_nm ex53 h
                  refine lv_iinc (v := x53) (lv' := [(6, .int x53), (4, .int x52), (5, .int x50), (7, .int 1), (3, .int x2), (0, .ref (G.2.2.1 85)), (1, .int a1), (2, .int a2)]) hx hb dX7_ownParish_142 hl (k := 3) rfl (by rw [ex53]; rfl) (by decide) rfl (fun ls hl => ?_)
                  refine lv_goto (tgt := 42) hx hb dX7_ownParish_145 (by decide) ?_
                  exact ihL33 _ _ _ _ _ _ _ h hP hS (lv_sub hl [0, 2, 1, 4, 5, 6, 7] rfl)
    refine LPL33 _ (fun z54 z55 z56 σ57 H locs ls h hP hS hl => ?_) gFu _ _ _ _ _ _ _ h hP hS (lv_sub hl [0, 1, 2, 3, 4, 5, 6] rfl)
    refine lv_iload hx hb dX7_ownParish_148 (lv_at hl 1 rfl) ?_
    exact g_iret hx hb hr hlk hE hP hS h dX7_ownParish_150

def L2_X7_teller (a1 : Int32) : Nat → Int32 → gSt → (Int32 → gSt → gO) → gO
  | 0, _, _, _ => none
  | nL2 + 1, l2_2, σL2, kL2 =>
    if l2_2 ≤ 0 then (kL2 l2_2 σL2) else (gBd (M_X7_ownParish l2_2 a1 σL2) (fun r5 σ4 => if r5 = (-1) then (gNm (l2_2 + (-1) : Int32) (fun x7 => L2_X7_teller a1 nL2 x7 σ4 kL2)) else (some (l2_2, σ4))))
def M_X7_teller (a1 : Int32) (σ : gSt) : gO :=
  gNm (((σ 85 7) - 1) : Int32) (fun x1 => L2_X7_teller a1 gFu x1 σ (fun z8 σ9 => some (0, σ9)))
set_option maxHeartbeats 4000000 in
set_option maxRecDepth 100000 in
theorem c_X7_teller (l : Launch) (G : gPar) (a1 : Int32) (σ : gSt) {r : Int32} {σ' : gSt} (h : M_X7_teller a1 σ = some (r, σ')) : gC l G yX7_teller cX7_teller 3 (some .int) 1 27 [.ref (G.2.2.1 85), .int a1] σ r σ' := by
  refine gC_of (by decide) (Nat.le_of_ble_eq_true rfl) ?_
  intro p e s m below meth c hx hb hr ht hown hlk hml hE hP ls hl
  have hS : va_S (gA G) s.heap s.heap [] := va_S.rf
  have hl : lv_has ls 3 [(0, .ref (G.2.2.1 85)), (1, .int a1)] := hl
  unfold M_X7_teller at h
  refine lv_aload_n hx hb dX7_teller_0 rfl (lv_at hl 0 rfl) ?_
  refine g_get hx hb ht hown hE hP (by decide) gE_85 uX7 rfl 7 (by decide) m_290 rfl rfl dX7_teller_1 ?_
  refine lv_iconst (v := 1) hx hb dX7_teller_4 (by decide) ?_
  refine lv_isub hx hb dX7_teller_5 ?_
  refine lv_topi (fun x1 ex1 => ?_)
  have h := g_nm ex1 h
  refine lv_istore_n (lv' := [(2, .int x1), (0, .ref (G.2.2.1 85)), (1, .int a1)]) hx hb dX7_teller_6 rfl hl (by decide) rfl (fun ls hl => ?_)
  have LPL2 : ∀ (kL2 : Int32 → gSt → gO), (∀ (l2_2 : Int32) (σL2 : gSt) (H : Heap) (locs : List Loc) (ls : Array Slot), kL2 l2_2 σL2 = some (r, σ') → gW G σL2 H → va_S (gA G) s.heap H locs → lv_has ls 3 [(2, .int l2_2), (0, .ref (G.2.2.1 85)), (1, .int a1)] → W p l e (gRm 1 27) s m ([.ref (G.2.2.1 85), .int a1].toArray) below meth c H locs 0 0 (MQ below (gQ G r σ') ([.ref (G.2.2.1 85), .int a1].toArray) s 0 0 (gA G)) (F0 m 29 ls [])) → ∀ (nL2 : Nat) (l2_2 : Int32) (σL2 : gSt) (H : Heap) (locs : List Loc) (ls : Array Slot), L2_X7_teller a1 nL2 l2_2 σL2 kL2 = some (r, σ') → gW G σL2 H → va_S (gA G) s.heap H locs → lv_has ls 3 [(2, .int l2_2), (0, .ref (G.2.2.1 85)), (1, .int a1)] → W p l e (gRm 1 27) s m ([.ref (G.2.2.1 85), .int a1].toArray) below meth c H locs 0 0 (MQ below (gQ G r σ') ([.ref (G.2.2.1 85), .int a1].toArray) s 0 0 (gA G)) (F0 m 7 ls []) := by
    intro kL2 hKL2 nL2
    induction nL2 with
    | zero =>
      intro l2_2 σL2 H locs ls h
      cases h
    | succ nL2 ihL2 =>
      intro l2_2 σL2 H locs ls h hP hS hl
      rw [L2_X7_teller] at h
      refine lv_iload_n hx hb dX7_teller_7 rfl (lv_at hl 0 rfl) ?_
      refine lv_if_le (tgt := 29) hx hb dX7_teller_8 (by decide) (fun c3 => ?_) (fun c3 => ?_)
      · have h := g_ift c3 h
        exact hKL2 _ _ _ _ _ h hP hS (lv_sub hl [0, 1, 2] rfl)
      · have h := g_iff c3 h
        refine lv_aload_n hx hb dX7_teller_11 rfl (lv_at hl 1 rfl) ?_
        refine lv_iload_n hx hb dX7_teller_12 rfl (lv_at hl 0 rfl) ?_
        refine lv_iload_n hx hb dX7_teller_13 rfl (lv_at hl 2 rfl) ?_
        obtain ⟨r5, σ4, hcr5, h⟩ := g_bd h
        refine g_callV (As := [.int l2_2, .int a1]) (n := 2) hx hb hml hown ht (c_X7_ownParish l G _ _ _ hcr5) m_519 m_521 m_6 m_38 m_522 (by decide +kernel) (by decide) gE_85 rfl hE hP hS (fun _ h => h) (fun _ _ h => h) rfl hl.1 rfl (Nat.le_of_ble_eq_true rfl) dX7_teller_14 ⟨by decide, by decide⟩ ⟨Nat.zero_le _, Nat.zero_le _⟩ (fun H locs hP hS => ?_)
        refine lv_iconst (v := (-1)) hx hb dX7_teller_17 (by decide) ?_
        refine lv_icmp_eq (tgt := 23) hx hb dX7_teller_18 (by decide) (fun c6 => ?_) (fun c6 => ?_)
        · have h := g_ift c6 h
          obtain ⟨x7, ex7⟩ : ∃ y : Int32, y = l2_2 + (-1) := ⟨_, rfl⟩
          have h := g_nm ex7 h
          refine lv_iinc (v := x7) (lv' := [(2, .int x7), (0, .ref (G.2.2.1 85)), (1, .int a1)]) hx hb dX7_teller_23 hl (k := 0) rfl (by rw [ex7]; rfl) (by decide) rfl (fun ls hl => ?_)
          refine lv_goto (tgt := 7) hx hb dX7_teller_26 (by decide) ?_
          exact ihL2 _ _ _ _ _ h hP hS (lv_sub hl [0, 1, 2] rfl)
        · have h := g_iff c6 h
          refine lv_iload_n hx hb dX7_teller_21 rfl (lv_at hl 0 rfl) ?_
          exact g_iret hx hb hr hlk hE hP hS h dX7_teller_22
  refine LPL2 _ (fun z8 σ9 H locs ls h hP hS hl => ?_) gFu _ _ _ _ _ h hP hS (lv_sub hl [0, 1, 2] rfl)
  refine lv_iconst (v := 0) hx hb dX7_teller_29 (by decide) ?_
  exact g_iret hx hb hr hlk hE hP hS h dX7_teller_30

def M_X7_settledParish (a1 : Int32) (σ : gSt) : gO :=
  gBd (M_X7_teller a1 σ) (fun r2 σ1 => gBd (M_X7_ownParish r2 a1 σ1) (fun r4 σ3 => some (r4, σ3)))
set_option maxHeartbeats 4000000 in
set_option maxRecDepth 100000 in
theorem c_X7_settledParish (l : Launch) (G : gPar) (a1 : Int32) (σ : gSt) {r : Int32} {σ' : gSt} (h : M_X7_settledParish a1 σ = some (r, σ')) : gC l G yX7_settledParish cX7_settledParish 2 (some .int) 2 49 [.ref (G.2.2.1 85), .int a1] σ r σ' := by
  refine gC_of (by decide) (Nat.le_of_ble_eq_true rfl) ?_
  intro p e s m below meth c hx hb hr ht hown hlk hml hE hP ls hl
  have hS : va_S (gA G) s.heap s.heap [] := va_S.rf
  have hl : lv_has ls 2 [(0, .ref (G.2.2.1 85)), (1, .int a1)] := hl
  unfold M_X7_settledParish at h
  refine lv_aload_n hx hb dX7_settledParish_0 rfl (lv_at hl 0 rfl) ?_
  refine lv_aload_n hx hb dX7_settledParish_1 rfl (lv_at hl 0 rfl) ?_
  refine lv_iload_n hx hb dX7_settledParish_2 rfl (lv_at hl 1 rfl) ?_
  obtain ⟨r2, σ1, hcr2, h⟩ := g_bd h
  refine g_callV (As := [.int a1]) (n := 1) hx hb hml hown ht (c_X7_teller l G _ _ hcr2) m_539 m_541 m_9 m_38 m_542 (by decide +kernel) (by decide) gE_85 rfl hE hP hS (fun _ h => h) (fun _ _ h => h) rfl hl.1 rfl (Nat.le_of_ble_eq_true rfl) dX7_settledParish_3 ⟨by decide, by decide⟩ ⟨Nat.zero_le _, Nat.zero_le _⟩ (fun H locs hP hS => ?_)
  refine lv_iload_n hx hb dX7_settledParish_6 rfl (lv_at hl 1 rfl) ?_
  obtain ⟨r4, σ3, hcr4, h⟩ := g_bd h
  refine g_callV (As := [.int r2, .int a1]) (n := 2) hx hb hml hown ht (c_X7_ownParish l G _ _ _ hcr4) m_519 m_521 m_6 m_38 m_522 (by decide +kernel) (by decide) gE_85 rfl hE hP hS (fun _ h => h) (fun _ _ h => h) rfl hl.1 rfl (Nat.le_of_ble_eq_true rfl) dX7_settledParish_7 ⟨by decide, by decide⟩ ⟨Nat.zero_le _, Nat.zero_le _⟩ (fun H locs hP hS => ?_)
  exact g_iret hx hb hr hlk hE hP hS h dX7_settledParish_10

def M_X7_ownOf (a1 a2 a3 : Int32) (σ : gSt) : gO :=
  gBd (M_X7_prepare a1 a2 a3 σ) (fun r2 σ1 => gBd (M_X7_ownParish 0 0 σ1) (fun r4 σ3 => some (r4, σ3)))
set_option maxHeartbeats 4000000 in
set_option maxRecDepth 100000 in
theorem c_X7_ownOf (l : Launch) (G : gPar) (a1 a2 a3 : Int32) (σ : gSt) {r : Int32} {σ' : gSt} (h : M_X7_ownOf a1 a2 a3 σ = some (r, σ')) : gC l G yX7_ownOf cX7_ownOf 4 (some .int) 4 98 [.ref (G.2.2.1 85), .int a1, .int a2, .int a3] σ r σ' := by
  refine gC_of (by decide) (Nat.le_of_ble_eq_true rfl) ?_
  intro p e s m below meth c hx hb hr ht hown hlk hml hE hP ls hl
  have hS : va_S (gA G) s.heap s.heap [] := va_S.rf
  have hl : lv_has ls 4 [(0, .ref (G.2.2.1 85)), (1, .int a1), (2, .int a2), (3, .int a3)] := hl
  unfold M_X7_ownOf at h
  refine lv_aload_n hx hb dX7_ownOf_0 rfl (lv_at hl 0 rfl) ?_
  refine lv_iload_n hx hb dX7_ownOf_1 rfl (lv_at hl 1 rfl) ?_
  refine lv_iload_n hx hb dX7_ownOf_2 rfl (lv_at hl 2 rfl) ?_
  refine lv_iload_n hx hb dX7_ownOf_3 rfl (lv_at hl 3 rfl) ?_
  obtain ⟨r2, σ1, hcr2, h⟩ := g_bd h
  refine g_callVv (As := [.int a1, .int a2, .int a3]) (n := 3) hx hb hml hown ht (c_X7_prepare l G _ _ _ _ hcr2) m_486 m_488 m_2 m_38 m_489 (by decide +kernel) (by decide) gE_85 rfl hE hP hS (fun _ h => h) (fun _ _ h => h) rfl hl.1 rfl (Nat.le_of_ble_eq_true rfl) dX7_ownOf_4 ⟨by decide, by decide⟩ ⟨Nat.zero_le _, Nat.zero_le _⟩ (fun H locs hP hS => ?_)
  refine lv_aload_n hx hb dX7_ownOf_7 rfl (lv_at hl 0 rfl) ?_
  refine lv_iconst (v := 0) hx hb dX7_ownOf_8 (by decide) ?_
  refine lv_iconst (v := 0) hx hb dX7_ownOf_9 (by decide) ?_
  obtain ⟨r4, σ3, hcr4, h⟩ := g_bd h
  refine g_callV (As := [.int 0, .int 0]) (n := 2) hx hb hml hown ht (c_X7_ownParish l G _ _ _ hcr4) m_519 m_521 m_6 m_38 m_522 (by decide +kernel) (by decide) gE_85 rfl hE hP hS (fun _ h => h) (fun _ _ h => h) rfl hl.1 rfl (Nat.le_of_ble_eq_true rfl) dX7_ownOf_10 ⟨by decide, by decide⟩ ⟨Nat.zero_le _, Nat.zero_le _⟩ (fun H locs hP hS => ?_)
  exact g_iret hx hb hr hlk hE hP hS h dX7_ownOf_13

def M_X7_settlementOf (a1 a2 a3 : Int32) (σ : gSt) : gO :=
  gBd (M_X7_prepare a1 a2 a3 σ) (fun r2 σ1 => gBd (M_X7_settledParish 0 σ1) (fun r4 σ3 => some (r4, σ3)))
set_option maxHeartbeats 4000000 in
set_option maxRecDepth 100000 in
theorem c_X7_settlementOf (l : Launch) (G : gPar) (a1 a2 a3 : Int32) (σ : gSt) {r : Int32} {σ' : gSt} (h : M_X7_settlementOf a1 a2 a3 σ = some (r, σ')) : gC l G yX7_settlementOf cX7_settlementOf 4 (some .int) 4 98 [.ref (G.2.2.1 85), .int a1, .int a2, .int a3] σ r σ' := by
  refine gC_of (by decide) (Nat.le_of_ble_eq_true rfl) ?_
  intro p e s m below meth c hx hb hr ht hown hlk hml hE hP ls hl
  have hS : va_S (gA G) s.heap s.heap [] := va_S.rf
  have hl : lv_has ls 4 [(0, .ref (G.2.2.1 85)), (1, .int a1), (2, .int a2), (3, .int a3)] := hl
  unfold M_X7_settlementOf at h
  refine lv_aload_n hx hb dX7_settlementOf_0 rfl (lv_at hl 0 rfl) ?_
  refine lv_iload_n hx hb dX7_settlementOf_1 rfl (lv_at hl 1 rfl) ?_
  refine lv_iload_n hx hb dX7_settlementOf_2 rfl (lv_at hl 2 rfl) ?_
  refine lv_iload_n hx hb dX7_settlementOf_3 rfl (lv_at hl 3 rfl) ?_
  obtain ⟨r2, σ1, hcr2, h⟩ := g_bd h
  refine g_callVv (As := [.int a1, .int a2, .int a3]) (n := 3) hx hb hml hown ht (c_X7_prepare l G _ _ _ _ hcr2) m_486 m_488 m_2 m_38 m_489 (by decide +kernel) (by decide) gE_85 rfl hE hP hS (fun _ h => h) (fun _ _ h => h) rfl hl.1 rfl (Nat.le_of_ble_eq_true rfl) dX7_settlementOf_4 ⟨by decide, by decide⟩ ⟨Nat.zero_le _, Nat.zero_le _⟩ (fun H locs hP hS => ?_)
  refine lv_aload_n hx hb dX7_settlementOf_7 rfl (lv_at hl 0 rfl) ?_
  refine lv_iconst (v := 0) hx hb dX7_settlementOf_8 (by decide) ?_
  obtain ⟨r4, σ3, hcr4, h⟩ := g_bd h
  refine g_callV (As := [.int 0]) (n := 1) hx hb hml hown ht (c_X7_settledParish l G _ _ hcr4) m_535 m_537 m_8 m_38 m_538 (by decide +kernel) (by decide) gE_85 rfl hE hP hS (fun _ h => h) (fun _ _ h => h) rfl hl.1 rfl (Nat.le_of_ble_eq_true rfl) dX7_settlementOf_9 ⟨by decide, by decide⟩ ⟨Nat.zero_le _, Nat.zero_le _⟩ (fun H locs hP hS => ?_)
  exact g_iret hx hb hr hlk hE hP hS h dX7_settlementOf_12

def M_X7_tellerOf (a1 a2 a3 : Int32) (σ : gSt) : gO :=
  gBd (M_X7_prepare a1 a2 a3 σ) (fun r2 σ1 => gBd (M_X7_teller 0 σ1) (fun r4 σ3 => gIx 10 r4 (some ((σ3 87 r4.toNatClampNeg), σ3))))
set_option maxHeartbeats 4000000 in
set_option maxRecDepth 100000 in
theorem c_X7_tellerOf (l : Launch) (G : gPar) (a1 a2 a3 : Int32) (σ : gSt) {r : Int32} {σ' : gSt} (h : M_X7_tellerOf a1 a2 a3 σ = some (r, σ')) : gC l G yX7_tellerOf cX7_tellerOf 4 (some .int) 4 98 [.ref (G.2.2.1 85), .int a1, .int a2, .int a3] σ r σ' := by
  refine gC_of (by decide) (Nat.le_of_ble_eq_true rfl) ?_
  intro p e s m below meth c hx hb hr ht hown hlk hml hE hP ls hl
  have hS : va_S (gA G) s.heap s.heap [] := va_S.rf
  have hl : lv_has ls 4 [(0, .ref (G.2.2.1 85)), (1, .int a1), (2, .int a2), (3, .int a3)] := hl
  unfold M_X7_tellerOf at h
  refine lv_aload_n hx hb dX7_tellerOf_0 rfl (lv_at hl 0 rfl) ?_
  refine lv_iload_n hx hb dX7_tellerOf_1 rfl (lv_at hl 1 rfl) ?_
  refine lv_iload_n hx hb dX7_tellerOf_2 rfl (lv_at hl 2 rfl) ?_
  refine lv_iload_n hx hb dX7_tellerOf_3 rfl (lv_at hl 3 rfl) ?_
  obtain ⟨r2, σ1, hcr2, h⟩ := g_bd h
  refine g_callVv (As := [.int a1, .int a2, .int a3]) (n := 3) hx hb hml hown ht (c_X7_prepare l G _ _ _ _ hcr2) m_486 m_488 m_2 m_38 m_489 (by decide +kernel) (by decide) gE_85 rfl hE hP hS (fun _ h => h) (fun _ _ h => h) rfl hl.1 rfl (Nat.le_of_ble_eq_true rfl) dX7_tellerOf_4 ⟨by decide, by decide⟩ ⟨Nat.zero_le _, Nat.zero_le _⟩ (fun H locs hP hS => ?_)
  refine lv_aload_n hx hb dX7_tellerOf_7 rfl (lv_at hl 0 rfl) ?_
  refine g_get hx hb ht hown hE hP (by decide) gE_85 uX7 rfl 2 (by decide) m_285 rfl rfl dX7_tellerOf_8 ?_
  refine lv_aload_n hx hb dX7_tellerOf_11 rfl (lv_at hl 0 rfl) ?_
  refine lv_iconst (v := 0) hx hb dX7_tellerOf_12 (by decide) ?_
  obtain ⟨r4, σ3, hcr4, h⟩ := g_bd h
  refine g_callV (As := [.int 0]) (n := 1) hx hb hml hown ht (c_X7_teller l G _ _ hcr4) m_539 m_541 m_9 m_38 m_542 (by decide +kernel) (by decide) gE_85 rfl hE hP hS (fun _ h => h) (fun _ _ h => h) rfl hl.1 rfl (Nat.le_of_ble_eq_true rfl) dX7_tellerOf_13 ⟨by decide, by decide⟩ ⟨Nat.zero_le _, Nat.zero_le _⟩ (fun H locs hP hS => ?_)
  obtain ⟨i5, h⟩ := g_ix h
  refine g_iald hx hb hE hP (by decide) rfl (by decide) i5 dX7_tellerOf_16 ?_
  exact g_iret hx hb hr hlk hE hP hS h dX7_tellerOf_17

def L1_X7_deniedIn (a1 : Int32) : Nat → Int32 → Int32 → gSt → (Int32 → Int32 → gSt → gO) → gO
  | 0, _, _, _, _ => none
  | nL1 + 1, l1_3, l1_2, σL1, kL1 =>
    if (σL1 85 8) ≤ l1_3 then (kL1 l1_3 l1_2 σL1) else (gIx 8 l1_3 (gNm ((l1_2 ||| (((a1 >>> (l1_3 &&& 31)) &&& 1) <<< ((σL1 89 l1_3.toNatClampNeg) &&& 31))) : Int32) (fun x4 => gNm (l1_3 + 1 : Int32) (fun x5 => L1_X7_deniedIn a1 nL1 x5 x4 σL1 kL1))))
def M_X7_deniedIn (a1 : Int32) (σ : gSt) : gO :=
  L1_X7_deniedIn a1 gFu 0 0 σ (fun z6 z7 σ8 => some (z7, σ8))
set_option maxHeartbeats 4000000 in
set_option maxRecDepth 100000 in
theorem c_X7_deniedIn (l : Launch) (G : gPar) (a1 : Int32) (σ : gSt) {r : Int32} {σ' : gSt} (h : M_X7_deniedIn a1 σ = some (r, σ')) : gC l G yX7_deniedIn cX7_deniedIn 4 (some .int) 0 0 [.ref (G.2.2.1 85), .int a1] σ r σ' := by
  refine gC_of (by decide) (Nat.le_of_ble_eq_true rfl) ?_
  intro p e s m below meth c hx hb hr ht hown hlk hml hE hP ls hl
  have hS : va_S (gA G) s.heap s.heap [] := va_S.rf
  have hl : lv_has ls 4 [(0, .ref (G.2.2.1 85)), (1, .int a1)] := hl
  unfold M_X7_deniedIn at h
  refine lv_iconst (v := 0) hx hb dX7_deniedIn_0 (by decide) ?_
  refine lv_istore_n (lv' := [(2, .int 0), (0, .ref (G.2.2.1 85)), (1, .int a1)]) hx hb dX7_deniedIn_1 rfl hl (by decide) rfl (fun ls hl => ?_)
  refine lv_iconst (v := 0) hx hb dX7_deniedIn_2 (by decide) ?_
  refine lv_istore_n (lv' := [(3, .int 0), (2, .int 0), (0, .ref (G.2.2.1 85)), (1, .int a1)]) hx hb dX7_deniedIn_3 rfl hl (by decide) rfl (fun ls hl => ?_)
  have LPL1 : ∀ (kL1 : Int32 → Int32 → gSt → gO), (∀ (l1_3 l1_2 : Int32) (σL1 : gSt) (H : Heap) (locs : List Loc) (ls : Array Slot), kL1 l1_3 l1_2 σL1 = some (r, σ') → gW G σL1 H → va_S (gA G) s.heap H locs → lv_has ls 4 [(3, .int l1_3), (2, .int l1_2), (0, .ref (G.2.2.1 85)), (1, .int a1)] → W p l e (gRm 0 0) s m ([.ref (G.2.2.1 85), .int a1].toArray) below meth c H locs 0 0 (MQ below (gQ G r σ') ([.ref (G.2.2.1 85), .int a1].toArray) s 0 0 (gA G)) (F0 m 33 ls [])) → ∀ (nL1 : Nat) (l1_3 l1_2 : Int32) (σL1 : gSt) (H : Heap) (locs : List Loc) (ls : Array Slot), L1_X7_deniedIn a1 nL1 l1_3 l1_2 σL1 kL1 = some (r, σ') → gW G σL1 H → va_S (gA G) s.heap H locs → lv_has ls 4 [(3, .int l1_3), (2, .int l1_2), (0, .ref (G.2.2.1 85)), (1, .int a1)] → W p l e (gRm 0 0) s m ([.ref (G.2.2.1 85), .int a1].toArray) below meth c H locs 0 0 (MQ below (gQ G r σ') ([.ref (G.2.2.1 85), .int a1].toArray) s 0 0 (gA G)) (F0 m 4 ls []) := by
    intro kL1 hKL1 nL1
    induction nL1 with
    | zero =>
      intro l1_3 l1_2 σL1 H locs ls h
      cases h
    | succ nL1 ihL1 =>
      intro l1_3 l1_2 σL1 H locs ls h hP hS hl
      rw [L1_X7_deniedIn] at h
      refine lv_iload_n hx hb dX7_deniedIn_4 rfl (lv_at hl 0 rfl) ?_
      refine lv_aload_n hx hb dX7_deniedIn_5 rfl (lv_at hl 2 rfl) ?_
      refine g_get hx hb ht hown hE hP (by decide) gE_85 uX7 rfl 8 (by decide) m_291 rfl rfl dX7_deniedIn_6 ?_
      refine lv_icmp_ge (tgt := 33) hx hb dX7_deniedIn_9 (by decide) (fun c2 => ?_) (fun c2 => ?_)
      · have h := g_ift c2 h
        exact hKL1 _ _ _ _ _ _ h hP hS (lv_sub hl [0, 1, 2, 3] rfl)
      · have h := g_iff c2 h
        refine lv_iload_n hx hb dX7_deniedIn_12 rfl (lv_at hl 1 rfl) ?_
        refine lv_iload_n hx hb dX7_deniedIn_13 rfl (lv_at hl 3 rfl) ?_
        refine lv_iload_n hx hb dX7_deniedIn_14 rfl (lv_at hl 0 rfl) ?_
        refine lv_ishr hx hb dX7_deniedIn_15 ?_
        refine lv_iconst (v := 1) hx hb dX7_deniedIn_16 (by decide) ?_
        refine lv_iand hx hb dX7_deniedIn_17 ?_
        refine lv_aload_n hx hb dX7_deniedIn_18 rfl (lv_at hl 2 rfl) ?_
        refine g_get hx hb ht hown hE hP (by decide) gE_85 uX7 rfl 4 (by decide) m_287 rfl rfl dX7_deniedIn_19 ?_
        refine lv_iload_n hx hb dX7_deniedIn_22 rfl (lv_at hl 0 rfl) ?_
        obtain ⟨i3, h⟩ := g_ix h
        refine g_iald hx hb hE hP (by decide) rfl (by decide) i3 dX7_deniedIn_23 ?_
        refine lv_ishl hx hb dX7_deniedIn_24 ?_
        refine lv_ior hx hb dX7_deniedIn_25 ?_
        refine lv_topi (fun x4 ex4 => ?_)
        have h := g_nm ex4 h
        refine lv_istore_n (lv' := [(2, .int x4), (3, .int l1_3), (0, .ref (G.2.2.1 85)), (1, .int a1)]) hx hb dX7_deniedIn_26 rfl hl (by decide) rfl (fun ls hl => ?_)
        obtain ⟨x5, ex5⟩ : ∃ y : Int32, y = l1_3 + 1 := ⟨_, rfl⟩
        have h := g_nm ex5 h
        refine lv_iinc (v := x5) (lv' := [(3, .int x5), (2, .int x4), (0, .ref (G.2.2.1 85)), (1, .int a1)]) hx hb dX7_deniedIn_27 hl (k := 1) rfl (by rw [ex5]; rfl) (by decide) rfl (fun ls hl => ?_)
        refine lv_goto (tgt := 4) hx hb dX7_deniedIn_30 (by decide) ?_
        exact ihL1 _ _ _ _ _ _ h hP hS (lv_sub hl [0, 1, 2, 3] rfl)
  refine LPL1 _ (fun z6 z7 σ8 H locs ls h hP hS hl => ?_) gFu _ _ _ _ _ _ h hP hS (lv_sub hl [0, 1, 2, 3] rfl)
  refine lv_iload_n hx hb dX7_deniedIn_33 rfl (lv_at hl 1 rfl) ?_
  exact g_iret hx hb hr hlk hE hP hS h dX7_deniedIn_34

def L6_X7_findDoubted : Nat → Int32 → gSt → (Int32 → gSt → gO) → gO
  | 0, _, _, _ => none
  | nL6 + 1, l6_1, σL6, kL6 =>
    if (σL6 17 0) ≤ l6_1 then (kL6 l6_1 σL6) else (if 8 ≤ (σL6 85 8) then (kL6 l6_1 σL6) else (gBd (M_X1_isDoubted l6_1 σL6) (fun r10 σ9 => if r10 = 0 then (gNm (l6_1 + 1 : Int32) (fun x12 => L6_X7_findDoubted nL6 x12 σ9 kL6)) else (gIx 8 (σ9 85 8) (gNm (gUp σ9 89 (σ9 85 8).toNatClampNeg l6_1) (fun σ14 => gNm (gUp σ14 85 8 ((σ14 85 8) + 1)) (fun σ15 => gNm (l6_1 + 1 : Int32) (fun x16 => L6_X7_findDoubted nL6 x16 σ15 kL6))))))))
def M_X7_findDoubted (σ : gSt) : gO :=
  gNm (gUp σ 85 8 0) (fun σ1 => gBd (M_J7_fill_53178 90 8 0 σ1) (fun r3 σ2 => gBd (M_J7_fill_53178 91 8 0 σ2) (fun r5 σ4 => L6_X7_findDoubted gFu 0 σ4 (fun z17 σ18 => some (0, σ18)))))
set_option maxHeartbeats 4000000 in
set_option maxRecDepth 100000 in
theorem c_X7_findDoubted (l : Launch) (G : gPar) (σ : gSt) {r : Int32} {σ' : gSt} (h : M_X7_findDoubted σ = some (r, σ')) : gV l G yX7_findDoubted cX7_findDoubted 2 1 23 [.ref (G.2.2.1 85)] σ σ' := by
  refine gV_of (by decide) (Nat.le_of_ble_eq_true rfl) ?_
  intro p e s m below meth c hx hb hr ht hown hlk hml hE hP ls hl
  have hS : va_S (gA G) s.heap s.heap [] := va_S.rf
  have hl : lv_has ls 2 [(0, .ref (G.2.2.1 85))] := hl
  unfold M_X7_findDoubted at h
  refine lv_aload_n hx hb dX7_findDoubted_0 rfl (lv_at hl 0 rfl) ?_
  refine lv_iconst (v := 0) hx hb dX7_findDoubted_1 (by decide) ?_
  refine g_put hx hb ht hown hE hP hS (by decide) gE_85 uX7 tyX7_ok nmX7 rfl 8 (by decide) m_291 rfl rfl rfl rfl rfl (Nat.le_of_ble_eq_true rfl) rfl dX7_findDoubted_2 (fun H locs σ1 eσ1 hP hS => ?_)
  have h := g_nm eσ1 h
  refine lv_aload_n hx hb dX7_findDoubted_5 rfl (lv_at hl 0 rfl) ?_
  refine g_get hx hb ht hown hE hP (by decide) gE_85 uX7 rfl 5 (by decide) m_288 rfl rfl dX7_findDoubted_6 ?_
  refine lv_iconst (v := 0) hx hb dX7_findDoubted_9 (by decide) ?_
  obtain ⟨r3, σ2, hcr3, h⟩ := g_bd h
  refine g_callSv (As := [.ref (G.2.2.1 90), .int 0]) (n := 2) hx hb hml hown ht (c_J7_fill_53178 l G 90 8 (by decide) rfl (by decide) _ _ hcr3) m_567 m_568 m_41 m_569 (by decide +kernel) hE hP hS (fun _ h => h) (fun _ _ h => h) rfl hl.1 rfl (Nat.le_of_ble_eq_true rfl) dX7_findDoubted_10 ⟨by decide, by decide⟩ ⟨Nat.zero_le _, Nat.zero_le _⟩ (fun H locs hP hS => ?_)
  refine lv_aload_n hx hb dX7_findDoubted_13 rfl (lv_at hl 0 rfl) ?_
  refine g_get hx hb ht hown hE hP (by decide) gE_85 uX7 rfl 6 (by decide) m_289 rfl rfl dX7_findDoubted_14 ?_
  refine lv_iconst (v := 0) hx hb dX7_findDoubted_17 (by decide) ?_
  obtain ⟨r5, σ4, hcr5, h⟩ := g_bd h
  refine g_callSv (As := [.ref (G.2.2.1 91), .int 0]) (n := 2) hx hb hml hown ht (c_J7_fill_53178 l G 91 8 (by decide) rfl (by decide) _ _ hcr5) m_567 m_568 m_41 m_569 (by decide +kernel) hE hP hS (fun _ h => h) (fun _ _ h => h) rfl hl.1 rfl (Nat.le_of_ble_eq_true rfl) dX7_findDoubted_18 ⟨by decide, by decide⟩ ⟨Nat.zero_le _, Nat.zero_le _⟩ (fun H locs hP hS => ?_)
  refine lv_iconst (v := 0) hx hb dX7_findDoubted_21 (by decide) ?_
  refine lv_istore_n (lv' := [(1, .int 0), (0, .ref (G.2.2.1 85))]) hx hb dX7_findDoubted_22 rfl hl (by decide) rfl (fun ls hl => ?_)
  have LPL6 : ∀ (kL6 : Int32 → gSt → gO), (∀ (l6_1 : Int32) (σL6 : gSt) (H : Heap) (locs : List Loc) (ls : Array Slot), kL6 l6_1 σL6 = some (r, σ') → gW G σL6 H → va_S (gA G) s.heap H locs → lv_has ls 2 [(1, .int l6_1), (0, .ref (G.2.2.1 85))] → W p l e (gRm 1 23) s m ([.ref (G.2.2.1 85)].toArray) below meth c H locs 0 0 (MQ below (gQv G σ') ([.ref (G.2.2.1 85)].toArray) s 0 0 (gA G)) (F0 m 86 ls [])) → ∀ (nL6 : Nat) (l6_1 : Int32) (σL6 : gSt) (H : Heap) (locs : List Loc) (ls : Array Slot), L6_X7_findDoubted nL6 l6_1 σL6 kL6 = some (r, σ') → gW G σL6 H → va_S (gA G) s.heap H locs → lv_has ls 2 [(1, .int l6_1), (0, .ref (G.2.2.1 85))] → W p l e (gRm 1 23) s m ([.ref (G.2.2.1 85)].toArray) below meth c H locs 0 0 (MQ below (gQv G σ') ([.ref (G.2.2.1 85)].toArray) s 0 0 (gA G)) (F0 m 23 ls []) := by
    intro kL6 hKL6 nL6
    induction nL6 with
    | zero =>
      intro l6_1 σL6 H locs ls h
      cases h
    | succ nL6 ihL6 =>
      intro l6_1 σL6 H locs ls h hP hS hl
      rw [L6_X7_findDoubted] at h
      refine lv_iload_n hx hb dX7_findDoubted_23 rfl (lv_at hl 0 rfl) ?_
      refine lv_aload_n hx hb dX7_findDoubted_24 rfl (lv_at hl 1 rfl) ?_
      refine g_get hx hb ht hown hE hP (by decide) gE_85 uX7 rfl 0 (by decide) m_283 rfl rfl dX7_findDoubted_25 ?_
      refine g_get hx hb ht hown hE hP (by decide) gE_1 uX0 rfl 2 (by decide) m_251 rfl rfl dX7_findDoubted_28 ?_
      refine g_get hx hb ht hown hE hP (by decide) gE_17 uX1 rfl 0 (by decide) m_121 rfl rfl dX7_findDoubted_31 ?_
      refine lv_icmp_ge (tgt := 86) hx hb dX7_findDoubted_34 (by decide) (fun c7 => ?_) (fun c7 => ?_)
      · have h := g_ift c7 h
        exact hKL6 _ _ _ _ _ h hP hS (lv_sub hl [0, 1] rfl)
      · have h := g_iff c7 h
        refine lv_aload_n hx hb dX7_findDoubted_37 rfl (lv_at hl 1 rfl) ?_
        refine g_get hx hb ht hown hE hP (by decide) gE_85 uX7 rfl 8 (by decide) m_291 rfl rfl dX7_findDoubted_38 ?_
        refine lv_bipush (v := 8) hx hb dX7_findDoubted_41 (by decide) ?_
        refine lv_icmp_ge (tgt := 86) hx hb dX7_findDoubted_43 (by decide) (fun c8 => ?_) (fun c8 => ?_)
        · have h := g_ift c8 h
          exact hKL6 _ _ _ _ _ h hP hS (lv_sub hl [0, 1] rfl)
        · have h := g_iff c8 h
          refine lv_aload_n hx hb dX7_findDoubted_46 rfl (lv_at hl 1 rfl) ?_
          refine g_get hx hb ht hown hE hP (by decide) gE_85 uX7 rfl 0 (by decide) m_283 rfl rfl dX7_findDoubted_47 ?_
          refine g_get hx hb ht hown hE hP (by decide) gE_1 uX0 rfl 2 (by decide) m_251 rfl rfl dX7_findDoubted_50 ?_
          refine lv_iload_n hx hb dX7_findDoubted_53 rfl (lv_at hl 0 rfl) ?_
          obtain ⟨r10, σ9, hcr10, h⟩ := g_bd h
          refine g_callV (As := [.int l6_1]) (n := 1) hx hb hml hown ht (c_X1_isDoubted l G _ _ hcr10) m_570 m_443 m_444 m_34 m_445 (by decide +kernel) (by decide) gE_17 rfl hE hP hS (fun _ h => h) (fun _ _ h => h) rfl hl.1 rfl (Nat.le_of_ble_eq_true rfl) dX7_findDoubted_54 ⟨by decide, by decide⟩ ⟨Nat.zero_le _, Nat.zero_le _⟩ (fun H locs hP hS => ?_)
          refine lv_if_eq (tgt := 80) hx hb dX7_findDoubted_57 (by decide) (fun c11 => ?_) (fun c11 => ?_)
          · have h := g_ift c11 h
            obtain ⟨x12, ex12⟩ : ∃ y : Int32, y = l6_1 + 1 := ⟨_, rfl⟩
            have h := g_nm ex12 h
            refine lv_iinc (v := x12) (lv' := [(1, .int x12), (0, .ref (G.2.2.1 85))]) hx hb dX7_findDoubted_80 hl (k := 0) rfl (by rw [ex12]; rfl) (by decide) rfl (fun ls hl => ?_)
            refine lv_goto (tgt := 23) hx hb dX7_findDoubted_83 (by decide) ?_
            exact ihL6 _ _ _ _ _ h hP hS (lv_sub hl [0, 1] rfl)
          · have h := g_iff c11 h
            refine lv_aload_n hx hb dX7_findDoubted_60 rfl (lv_at hl 1 rfl) ?_
            refine g_get hx hb ht hown hE hP (by decide) gE_85 uX7 rfl 4 (by decide) m_287 rfl rfl dX7_findDoubted_61 ?_
            refine lv_aload_n hx hb dX7_findDoubted_64 rfl (lv_at hl 1 rfl) ?_
            refine g_get hx hb ht hown hE hP (by decide) gE_85 uX7 rfl 8 (by decide) m_291 rfl rfl dX7_findDoubted_65 ?_
            refine lv_iload_n hx hb dX7_findDoubted_68 rfl (lv_at hl 0 rfl) ?_
            obtain ⟨i13, h⟩ := g_ix h
            refine g_iast hx hb hE hP hS (by decide) rfl (by decide) i13 dX7_findDoubted_69 (fun H locs σ14 eσ14 hP hS => ?_)
            have h := g_nm eσ14 h
            refine lv_aload_n hx hb dX7_findDoubted_70 rfl (lv_at hl 1 rfl) ?_
            refine lv_dup hx hb dX7_findDoubted_71 rfl ?_
            refine g_get hx hb ht hown hE hP (by decide) gE_85 uX7 rfl 8 (by decide) m_291 rfl rfl dX7_findDoubted_72 ?_
            refine lv_iconst (v := 1) hx hb dX7_findDoubted_75 (by decide) ?_
            refine lv_iadd hx hb dX7_findDoubted_76 ?_
            refine g_put hx hb ht hown hE hP hS (by decide) gE_85 uX7 tyX7_ok nmX7 rfl 8 (by decide) m_291 rfl rfl rfl rfl rfl (Nat.le_of_ble_eq_true rfl) rfl dX7_findDoubted_77 (fun H locs σ15 eσ15 hP hS => ?_)
            have h := g_nm eσ15 h
            obtain ⟨x16, ex16⟩ : ∃ y : Int32, y = l6_1 + 1 := ⟨_, rfl⟩
            have h := g_nm ex16 h
            refine lv_iinc (v := x16) (lv' := [(1, .int x16), (0, .ref (G.2.2.1 85))]) hx hb dX7_findDoubted_80 hl (k := 0) rfl (by rw [ex16]; rfl) (by decide) rfl (fun ls hl => ?_)
            refine lv_goto (tgt := 23) hx hb dX7_findDoubted_83 (by decide) ?_
            exact ihL6 _ _ _ _ _ h hP hS (lv_sub hl [0, 1] rfl)
  refine LPL6 _ (fun z17 σ18 H locs ls h hP hS hl => ?_) gFu _ _ _ _ _ h hP hS (lv_sub hl [0, 1] rfl)
  exact g_vret (v := 0) (r := r) hx hb hr hlk hE hP hS h dX7_findDoubted_86

def L12_X7_tryAllWays (x11 x10 r8 l3_2 : Int32) : Nat → Int32 → gSt → (Int32 → gSt → gO) → gO
  | 0, _, _, _ => none
  | nL12 + 1, l12_5, σL12, kL12 =>
    if (σL12 85 8) ≤ l12_5 then (kL12 l12_5 σL12) else (if ((l3_2 >>> (l12_5 &&& 31)) &&& 1) = 0 then (gIx 8 l12_5 (gIx 8 l12_5 (gNm (gUp σL12 90 l12_5.toNatClampNeg ((σL12 90 l12_5.toNatClampNeg) ||| x10)) (fun σ21 => gNm (l12_5 + 1 : Int32) (fun x22 => L12_X7_tryAllWays x11 x10 r8 l3_2 nL12 x22 σ21 kL12))))) else (gIx 8 l12_5 (gIx 8 l12_5 (gNm (gUp σL12 91 l12_5.toNatClampNeg ((σL12 91 l12_5.toNatClampNeg) ||| x10)) (fun σ17 => gNm (l12_5 + 1 : Int32) (fun x18 => L12_X7_tryAllWays x11 x10 r8 l3_2 nL12 x18 σ17 kL12))))))
def L28_X7_tryAllWays (x27 x26 r8 l3_2 : Int32) : Nat → Int32 → gSt → (Int32 → gSt → gO) → gO
  | 0, _, _, _ => none
  | nL28 + 1, l28_5, σL28, kL28 =>
    if (σL28 85 8) ≤ l28_5 then (kL28 l28_5 σL28) else (if ((l3_2 >>> (l28_5 &&& 31)) &&& 1) = 0 then (gIx 8 l28_5 (gIx 8 l28_5 (gNm (gUp σL28 90 l28_5.toNatClampNeg ((σL28 90 l28_5.toNatClampNeg) ||| x26)) (fun σ37 => gNm (l28_5 + 1 : Int32) (fun x38 => L28_X7_tryAllWays x27 x26 r8 l3_2 nL28 x38 σ37 kL28))))) else (gIx 8 l28_5 (gIx 8 l28_5 (gNm (gUp σL28 91 l28_5.toNatClampNeg ((σL28 91 l28_5.toNatClampNeg) ||| x26)) (fun σ33 => gNm (l28_5 + 1 : Int32) (fun x34 => L28_X7_tryAllWays x27 x26 r8 l3_2 nL28 x34 σ33 kL28))))))
def L3_X7_tryAllWays : Nat → Int32 → Int32 → gSt → (Int32 → Int32 → gSt → gO) → gO
  | 0, _, _, _, _ => none
  | nL3 + 1, l3_2, l3_1, σL3, kL3 =>
    if ((1 : Int32) <<< ((σL3 85 8) &&& 31)) ≤ l3_2 then (kL3 l3_2 l3_1 σL3) else (gBd (M_X7_deniedIn l3_2 σL3) (fun r6 σ5 => gBd (M_X7_settledParish r6 σ5) (fun r8 σ7 => if r8 = (-1) then (gNm (((1 : Int32) <<< (6 &&& 31)) : Int32) (fun x26 => gNm ((l3_1 ||| x26) : Int32) (fun x27 => L28_X7_tryAllWays x27 x26 r8 l3_2 gFu 0 σ7 (fun z39 σ40 => gNm (l3_2 + 1 : Int32) (fun x41 => L3_X7_tryAllWays nL3 x41 x27 σ40 kL3))))) else (gNm (((1 : Int32) <<< (r8 &&& 31)) : Int32) (fun x10 => gNm ((l3_1 ||| x10) : Int32) (fun x11 => L12_X7_tryAllWays x11 x10 r8 l3_2 gFu 0 σ7 (fun z23 σ24 => gNm (l3_2 + 1 : Int32) (fun x25 => L3_X7_tryAllWays nL3 x25 x11 σ24 kL3))))))))
def M_X7_tryAllWays (σ : gSt) : gO :=
  gBd (M_X7_findDoubted σ) (fun r2 σ1 => L3_X7_tryAllWays gFu 0 0 σ1 (fun z42 z43 σ44 => some (z43, σ44)))
set_option maxHeartbeats 4000000 in
set_option maxRecDepth 100000 in
theorem c_X7_tryAllWays (l : Launch) (G : gPar) (σ : gSt) {r : Int32} {σ' : gSt} (h : M_X7_tryAllWays σ = some (r, σ')) : gC l G yX7_tryAllWays cX7_tryAllWays 6 (some .int) 3 70 [.ref (G.2.2.1 85)] σ r σ' := by
  refine gC_of (by decide) (Nat.le_of_ble_eq_true rfl) ?_
  intro p e s m below meth c hx hb hr ht hown hlk hml hE hP ls hl
  have hS : va_S (gA G) s.heap s.heap [] := va_S.rf
  have hl : lv_has ls 6 [(0, .ref (G.2.2.1 85))] := hl
  unfold M_X7_tryAllWays at h
  refine lv_aload_n hx hb dX7_tryAllWays_0 rfl (lv_at hl 0 rfl) ?_
  obtain ⟨r2, σ1, hcr2, h⟩ := g_bd h
  refine g_callVv (As := []) (n := 0) hx hb hml hown ht (c_X7_findDoubted l G _ hcr2) m_563 m_565 m_11 m_38 m_566 (by decide +kernel) (by decide) gE_85 rfl hE hP hS (fun _ h => h) (fun _ _ h => h) rfl hl.1 rfl (Nat.le_of_ble_eq_true rfl) dX7_tryAllWays_1 ⟨by decide, by decide⟩ ⟨Nat.zero_le _, Nat.zero_le _⟩ (fun H locs hP hS => ?_)
  refine lv_iconst (v := 0) hx hb dX7_tryAllWays_4 (by decide) ?_
  refine lv_istore_n (lv' := [(1, .int 0), (0, .ref (G.2.2.1 85))]) hx hb dX7_tryAllWays_5 rfl hl (by decide) rfl (fun ls hl => ?_)
  refine lv_iconst (v := 0) hx hb dX7_tryAllWays_6 (by decide) ?_
  refine lv_istore_n (lv' := [(2, .int 0), (1, .int 0), (0, .ref (G.2.2.1 85))]) hx hb dX7_tryAllWays_7 rfl hl (by decide) rfl (fun ls hl => ?_)
  have LPL3 : ∀ (kL3 : Int32 → Int32 → gSt → gO), (∀ (l3_2 l3_1 : Int32) (σL3 : gSt) (H : Heap) (locs : List Loc) (ls : Array Slot), kL3 l3_2 l3_1 σL3 = some (r, σ') → gW G σL3 H → va_S (gA G) s.heap H locs → lv_has ls 6 [(2, .int l3_2), (1, .int l3_1), (0, .ref (G.2.2.1 85))] → W p l e (gRm 3 70) s m ([.ref (G.2.2.1 85)].toArray) below meth c H locs 0 0 (MQ below (gQ G r σ') ([.ref (G.2.2.1 85)].toArray) s 0 0 (gA G)) (F0 m 108 ls [])) → ∀ (nL3 : Nat) (l3_2 l3_1 : Int32) (σL3 : gSt) (H : Heap) (locs : List Loc) (ls : Array Slot), L3_X7_tryAllWays nL3 l3_2 l3_1 σL3 kL3 = some (r, σ') → gW G σL3 H → va_S (gA G) s.heap H locs → lv_has ls 6 [(2, .int l3_2), (1, .int l3_1), (0, .ref (G.2.2.1 85))] → W p l e (gRm 3 70) s m ([.ref (G.2.2.1 85)].toArray) below meth c H locs 0 0 (MQ below (gQ G r σ') ([.ref (G.2.2.1 85)].toArray) s 0 0 (gA G)) (F0 m 8 ls []) := by
    intro kL3 hKL3 nL3
    induction nL3 with
    | zero =>
      intro l3_2 l3_1 σL3 H locs ls h
      cases h
    | succ nL3 ihL3 =>
      intro l3_2 l3_1 σL3 H locs ls h hP hS hl
      rw [L3_X7_tryAllWays] at h
      refine lv_iload_n hx hb dX7_tryAllWays_8 rfl (lv_at hl 0 rfl) ?_
      refine lv_iconst (v := 1) hx hb dX7_tryAllWays_9 (by decide) ?_
      refine lv_aload_n hx hb dX7_tryAllWays_10 rfl (lv_at hl 2 rfl) ?_
      refine g_get hx hb ht hown hE hP (by decide) gE_85 uX7 rfl 8 (by decide) m_291 rfl rfl dX7_tryAllWays_11 ?_
      refine lv_ishl hx hb dX7_tryAllWays_14 ?_
      refine lv_icmp_ge (tgt := 108) hx hb dX7_tryAllWays_15 (by decide) (fun c4 => ?_) (fun c4 => ?_)
      · have h := g_ift c4 h
        exact hKL3 _ _ _ _ _ _ h hP hS (lv_sub hl [0, 1, 2] rfl)
      · have h := g_iff c4 h
        refine lv_aload_n hx hb dX7_tryAllWays_18 rfl (lv_at hl 2 rfl) ?_
        refine lv_aload_n hx hb dX7_tryAllWays_19 rfl (lv_at hl 2 rfl) ?_
        refine lv_iload_n hx hb dX7_tryAllWays_20 rfl (lv_at hl 0 rfl) ?_
        obtain ⟨r6, σ5, hcr6, h⟩ := g_bd h
        refine g_callV (As := [.int l3_2]) (n := 1) hx hb hml hown ht (c_X7_deniedIn l G _ _ hcr6) m_571 m_573 m_12 m_38 m_574 (by decide +kernel) (by decide) gE_85 rfl hE hP hS (fun _ h => h) (fun _ _ h => h) rfl hl.1 rfl (Nat.le_of_ble_eq_true rfl) dX7_tryAllWays_21 ⟨by decide, by decide⟩ ⟨Nat.zero_le _, Nat.zero_le _⟩ (fun H locs hP hS => ?_)
        obtain ⟨r8, σ7, hcr8, h⟩ := g_bd h
        refine g_callV (As := [.int r6]) (n := 1) hx hb hml hown ht (c_X7_settledParish l G _ _ hcr8) m_535 m_537 m_8 m_38 m_538 (by decide +kernel) (by decide) gE_85 rfl hE hP hS (fun _ h => h) (fun _ _ h => h) rfl hl.1 rfl (Nat.le_of_ble_eq_true rfl) dX7_tryAllWays_24 ⟨by decide, by decide⟩ ⟨Nat.zero_le _, Nat.zero_le _⟩ (fun H locs hP hS => ?_)
        refine lv_istore_n (lv' := [(3, .int r8), (2, .int l3_2), (1, .int l3_1), (0, .ref (G.2.2.1 85))]) hx hb dX7_tryAllWays_27 rfl hl (by decide) rfl (fun ls hl => ?_)
        refine lv_iconst (v := 1) hx hb dX7_tryAllWays_28 (by decide) ?_
        refine lv_iload_n hx hb dX7_tryAllWays_29 rfl (lv_at hl 0 rfl) ?_
        refine lv_iconst (v := (-1)) hx hb dX7_tryAllWays_30 (by decide) ?_
        refine lv_icmp_ne (tgt := 39) hx hb dX7_tryAllWays_31 (by decide) (fun c9 => ?_) (fun c9 => ?_)
        · have h := g_iff c9 h
          refine lv_iload_n hx hb dX7_tryAllWays_39 rfl (lv_at hl 0 rfl) ?_
          refine lv_ishl hx hb dX7_tryAllWays_40 ?_
          refine lv_topi (fun x10 ex10 => ?_)
          have h := g_nm ex10 h
          refine lv_istore (lv' := [(4, .int x10), (3, .int r8), (2, .int l3_2), (1, .int l3_1), (0, .ref (G.2.2.1 85))]) hx hb dX7_tryAllWays_41 hl (by decide) rfl (fun ls hl => ?_)
          refine lv_iload_n hx hb dX7_tryAllWays_43 rfl (lv_at hl 3 rfl) ?_
          refine lv_iload hx hb dX7_tryAllWays_44 (lv_at hl 0 rfl) ?_
          refine lv_ior hx hb dX7_tryAllWays_46 ?_
          refine lv_topi (fun x11 ex11 => ?_)
          have h := g_nm ex11 h
          refine lv_istore_n (lv' := [(1, .int x11), (4, .int x10), (3, .int r8), (2, .int l3_2), (0, .ref (G.2.2.1 85))]) hx hb dX7_tryAllWays_47 rfl hl (by decide) rfl (fun ls hl => ?_)
          refine lv_iconst (v := 0) hx hb dX7_tryAllWays_48 (by decide) ?_
          refine lv_istore (lv' := [(5, .int 0), (1, .int x11), (4, .int x10), (3, .int r8), (2, .int l3_2), (0, .ref (G.2.2.1 85))]) hx hb dX7_tryAllWays_49 hl (by decide) rfl (fun ls hl => ?_)
          have LPL12 : ∀ (kL12 : Int32 → gSt → gO), (∀ (l12_5 : Int32) (σL12 : gSt) (H : Heap) (locs : List Loc) (ls : Array Slot), kL12 l12_5 σL12 = some (r, σ') → gW G σL12 H → va_S (gA G) s.heap H locs → lv_has ls 6 [(5, .int l12_5), (1, .int x11), (4, .int x10), (3, .int r8), (2, .int l3_2), (0, .ref (G.2.2.1 85))] → W p l e (gRm 3 70) s m ([.ref (G.2.2.1 85)].toArray) below meth c H locs 0 0 (MQ below (gQ G r σ') ([.ref (G.2.2.1 85)].toArray) s 0 0 (gA G)) (F0 m 102 ls [])) → ∀ (nL12 : Nat) (l12_5 : Int32) (σL12 : gSt) (H : Heap) (locs : List Loc) (ls : Array Slot), L12_X7_tryAllWays x11 x10 r8 l3_2 nL12 l12_5 σL12 kL12 = some (r, σ') → gW G σL12 H → va_S (gA G) s.heap H locs → lv_has ls 6 [(5, .int l12_5), (1, .int x11), (4, .int x10), (3, .int r8), (2, .int l3_2), (0, .ref (G.2.2.1 85))] → W p l e (gRm 3 70) s m ([.ref (G.2.2.1 85)].toArray) below meth c H locs 0 0 (MQ below (gQ G r σ') ([.ref (G.2.2.1 85)].toArray) s 0 0 (gA G)) (F0 m 51 ls []) := by
            intro kL12 hKL12 nL12
            induction nL12 with
            | zero =>
              intro l12_5 σL12 H locs ls h
              cases h
            | succ nL12 ihL12 =>
              intro l12_5 σL12 H locs ls h hP hS hl
              rw [L12_X7_tryAllWays] at h
              refine lv_iload hx hb dX7_tryAllWays_51 (lv_at hl 0 rfl) ?_
              refine lv_aload_n hx hb dX7_tryAllWays_53 rfl (lv_at hl 5 rfl) ?_
              refine g_get hx hb ht hown hE hP (by decide) gE_85 uX7 rfl 8 (by decide) m_291 rfl rfl dX7_tryAllWays_54 ?_
              refine lv_icmp_ge (tgt := 102) hx hb dX7_tryAllWays_57 (by decide) (fun c13 => ?_) (fun c13 => ?_)
              · have h := g_ift c13 h
                exact hKL12 _ _ _ _ _ h hP hS (lv_sub hl [0, 1, 2, 3, 4, 5] rfl)
              · have h := g_iff c13 h
                refine lv_iload_n hx hb dX7_tryAllWays_60 rfl (lv_at hl 4 rfl) ?_
                refine lv_iload hx hb dX7_tryAllWays_61 (lv_at hl 0 rfl) ?_
                refine lv_ishr hx hb dX7_tryAllWays_63 ?_
                refine lv_iconst (v := 1) hx hb dX7_tryAllWays_64 (by decide) ?_
                refine lv_iand hx hb dX7_tryAllWays_65 ?_
                refine lv_if_ne (tgt := 84) hx hb dX7_tryAllWays_66 (by decide) (fun c14 => ?_) (fun c14 => ?_)
                · have h := g_iff c14 h
                  refine lv_aload_n hx hb dX7_tryAllWays_84 rfl (lv_at hl 5 rfl) ?_
                  refine g_get hx hb ht hown hE hP (by decide) gE_85 uX7 rfl 6 (by decide) m_289 rfl rfl dX7_tryAllWays_85 ?_
                  refine lv_iload hx hb dX7_tryAllWays_88 (lv_at hl 0 rfl) ?_
                  refine lv_dup2_11 hx hb dX7_tryAllWays_90 rfl rfl ?_
                  obtain ⟨i15, h⟩ := g_ix h
                  refine g_iald hx hb hE hP (by decide) rfl (by decide) i15 dX7_tryAllWays_91 ?_
                  refine lv_iload hx hb dX7_tryAllWays_92 (lv_at hl 2 rfl) ?_
                  refine lv_ior hx hb dX7_tryAllWays_94 ?_
                  obtain ⟨i16, h⟩ := g_ix h
                  refine g_iast hx hb hE hP hS (by decide) rfl (by decide) i16 dX7_tryAllWays_95 (fun H locs σ17 eσ17 hP hS => ?_)
                  have h := g_nm eσ17 h
                  obtain ⟨x18, ex18⟩ : ∃ y : Int32, y = l12_5 + 1 := ⟨_, rfl⟩
                  have h := g_nm ex18 h
                  refine lv_iinc (v := x18) (lv' := [(5, .int x18), (1, .int x11), (4, .int x10), (3, .int r8), (2, .int l3_2), (0, .ref (G.2.2.1 85))]) hx hb dX7_tryAllWays_96 hl (k := 0) rfl (by rw [ex18]; rfl) (by decide) rfl (fun ls hl => ?_)
                  refine lv_goto (tgt := 51) hx hb dX7_tryAllWays_99 (by decide) ?_
                  exact ihL12 _ _ _ _ _ h hP hS (lv_sub hl [0, 1, 2, 3, 4, 5] rfl)
                · have h := g_ift c14 h
                  refine lv_aload_n hx hb dX7_tryAllWays_69 rfl (lv_at hl 5 rfl) ?_
                  refine g_get hx hb ht hown hE hP (by decide) gE_85 uX7 rfl 5 (by decide) m_288 rfl rfl dX7_tryAllWays_70 ?_
                  refine lv_iload hx hb dX7_tryAllWays_73 (lv_at hl 0 rfl) ?_
                  refine lv_dup2_11 hx hb dX7_tryAllWays_75 rfl rfl ?_
                  obtain ⟨i19, h⟩ := g_ix h
                  refine g_iald hx hb hE hP (by decide) rfl (by decide) i19 dX7_tryAllWays_76 ?_
                  refine lv_iload hx hb dX7_tryAllWays_77 (lv_at hl 2 rfl) ?_
                  refine lv_ior hx hb dX7_tryAllWays_79 ?_
                  obtain ⟨i20, h⟩ := g_ix h
                  refine g_iast hx hb hE hP hS (by decide) rfl (by decide) i20 dX7_tryAllWays_80 (fun H locs σ21 eσ21 hP hS => ?_)
                  have h := g_nm eσ21 h
                  refine lv_goto (tgt := 96) hx hb dX7_tryAllWays_81 (by decide) ?_
                  obtain ⟨x22, ex22⟩ : ∃ y : Int32, y = l12_5 + 1 := ⟨_, rfl⟩
                  have h := g_nm ex22 h
                  refine lv_iinc (v := x22) (lv' := [(5, .int x22), (1, .int x11), (4, .int x10), (3, .int r8), (2, .int l3_2), (0, .ref (G.2.2.1 85))]) hx hb dX7_tryAllWays_96 hl (k := 0) rfl (by rw [ex22]; rfl) (by decide) rfl (fun ls hl => ?_)
                  refine lv_goto (tgt := 51) hx hb dX7_tryAllWays_99 (by decide) ?_
                  exact ihL12 _ _ _ _ _ h hP hS (lv_sub hl [0, 1, 2, 3, 4, 5] rfl)
          refine LPL12 _ (fun z23 σ24 H locs ls h hP hS hl => ?_) gFu _ _ _ _ _ h hP hS (lv_sub hl [0, 1, 2, 3, 4, 5] rfl)
          obtain ⟨x25, ex25⟩ : ∃ y : Int32, y = l3_2 + 1 := ⟨_, rfl⟩
          have h := g_nm ex25 h
          refine lv_iinc (v := x25) (lv' := [(2, .int x25), (5, .int z23), (1, .int x11), (4, .int x10), (3, .int r8), (0, .ref (G.2.2.1 85))]) hx hb dX7_tryAllWays_102 hl (k := 4) rfl (by rw [ex25]; rfl) (by decide) rfl (fun ls hl => ?_)
          refine lv_goto (tgt := 8) hx hb dX7_tryAllWays_105 (by decide) ?_
          exact ihL3 _ _ _ _ _ _ h hP hS (lv_sub hl [0, 2, 5] rfl)
        · have h := g_ift c9 h
          refine lv_bipush (v := 6) hx hb dX7_tryAllWays_34 (by decide) ?_
          refine lv_goto (tgt := 40) hx hb dX7_tryAllWays_36 (by decide) ?_
          refine lv_ishl hx hb dX7_tryAllWays_40 ?_
          refine lv_topi (fun x26 ex26 => ?_)
          have h := g_nm ex26 h
          refine lv_istore (lv' := [(4, .int x26), (3, .int r8), (2, .int l3_2), (1, .int l3_1), (0, .ref (G.2.2.1 85))]) hx hb dX7_tryAllWays_41 hl (by decide) rfl (fun ls hl => ?_)
          refine lv_iload_n hx hb dX7_tryAllWays_43 rfl (lv_at hl 3 rfl) ?_
          refine lv_iload hx hb dX7_tryAllWays_44 (lv_at hl 0 rfl) ?_
          refine lv_ior hx hb dX7_tryAllWays_46 ?_
          refine lv_topi (fun x27 ex27 => ?_)
          have h := g_nm ex27 h
          refine lv_istore_n (lv' := [(1, .int x27), (4, .int x26), (3, .int r8), (2, .int l3_2), (0, .ref (G.2.2.1 85))]) hx hb dX7_tryAllWays_47 rfl hl (by decide) rfl (fun ls hl => ?_)
          refine lv_iconst (v := 0) hx hb dX7_tryAllWays_48 (by decide) ?_
          refine lv_istore (lv' := [(5, .int 0), (1, .int x27), (4, .int x26), (3, .int r8), (2, .int l3_2), (0, .ref (G.2.2.1 85))]) hx hb dX7_tryAllWays_49 hl (by decide) rfl (fun ls hl => ?_)
          have LPL28 : ∀ (kL28 : Int32 → gSt → gO), (∀ (l28_5 : Int32) (σL28 : gSt) (H : Heap) (locs : List Loc) (ls : Array Slot), kL28 l28_5 σL28 = some (r, σ') → gW G σL28 H → va_S (gA G) s.heap H locs → lv_has ls 6 [(5, .int l28_5), (1, .int x27), (4, .int x26), (3, .int r8), (2, .int l3_2), (0, .ref (G.2.2.1 85))] → W p l e (gRm 3 70) s m ([.ref (G.2.2.1 85)].toArray) below meth c H locs 0 0 (MQ below (gQ G r σ') ([.ref (G.2.2.1 85)].toArray) s 0 0 (gA G)) (F0 m 102 ls [])) → ∀ (nL28 : Nat) (l28_5 : Int32) (σL28 : gSt) (H : Heap) (locs : List Loc) (ls : Array Slot), L28_X7_tryAllWays x27 x26 r8 l3_2 nL28 l28_5 σL28 kL28 = some (r, σ') → gW G σL28 H → va_S (gA G) s.heap H locs → lv_has ls 6 [(5, .int l28_5), (1, .int x27), (4, .int x26), (3, .int r8), (2, .int l3_2), (0, .ref (G.2.2.1 85))] → W p l e (gRm 3 70) s m ([.ref (G.2.2.1 85)].toArray) below meth c H locs 0 0 (MQ below (gQ G r σ') ([.ref (G.2.2.1 85)].toArray) s 0 0 (gA G)) (F0 m 51 ls []) := by
            intro kL28 hKL28 nL28
            induction nL28 with
            | zero =>
              intro l28_5 σL28 H locs ls h
              cases h
            | succ nL28 ihL28 =>
              intro l28_5 σL28 H locs ls h hP hS hl
              rw [L28_X7_tryAllWays] at h
              refine lv_iload hx hb dX7_tryAllWays_51 (lv_at hl 0 rfl) ?_
              refine lv_aload_n hx hb dX7_tryAllWays_53 rfl (lv_at hl 5 rfl) ?_
              refine g_get hx hb ht hown hE hP (by decide) gE_85 uX7 rfl 8 (by decide) m_291 rfl rfl dX7_tryAllWays_54 ?_
              refine lv_icmp_ge (tgt := 102) hx hb dX7_tryAllWays_57 (by decide) (fun c29 => ?_) (fun c29 => ?_)
              · have h := g_ift c29 h
                exact hKL28 _ _ _ _ _ h hP hS (lv_sub hl [0, 1, 2, 3, 4, 5] rfl)
              · have h := g_iff c29 h
                refine lv_iload_n hx hb dX7_tryAllWays_60 rfl (lv_at hl 4 rfl) ?_
                refine lv_iload hx hb dX7_tryAllWays_61 (lv_at hl 0 rfl) ?_
                refine lv_ishr hx hb dX7_tryAllWays_63 ?_
                refine lv_iconst (v := 1) hx hb dX7_tryAllWays_64 (by decide) ?_
                refine lv_iand hx hb dX7_tryAllWays_65 ?_
                refine lv_if_ne (tgt := 84) hx hb dX7_tryAllWays_66 (by decide) (fun c30 => ?_) (fun c30 => ?_)
                · have h := g_iff c30 h
                  refine lv_aload_n hx hb dX7_tryAllWays_84 rfl (lv_at hl 5 rfl) ?_
                  refine g_get hx hb ht hown hE hP (by decide) gE_85 uX7 rfl 6 (by decide) m_289 rfl rfl dX7_tryAllWays_85 ?_
                  refine lv_iload hx hb dX7_tryAllWays_88 (lv_at hl 0 rfl) ?_
                  refine lv_dup2_11 hx hb dX7_tryAllWays_90 rfl rfl ?_
                  obtain ⟨i31, h⟩ := g_ix h
                  refine g_iald hx hb hE hP (by decide) rfl (by decide) i31 dX7_tryAllWays_91 ?_
                  refine lv_iload hx hb dX7_tryAllWays_92 (lv_at hl 2 rfl) ?_
                  refine lv_ior hx hb dX7_tryAllWays_94 ?_
                  obtain ⟨i32, h⟩ := g_ix h
                  refine g_iast hx hb hE hP hS (by decide) rfl (by decide) i32 dX7_tryAllWays_95 (fun H locs σ33 eσ33 hP hS => ?_)
                  have h := g_nm eσ33 h
                  obtain ⟨x34, ex34⟩ : ∃ y : Int32, y = l28_5 + 1 := ⟨_, rfl⟩
                  have h := g_nm ex34 h
                  refine lv_iinc (v := x34) (lv' := [(5, .int x34), (1, .int x27), (4, .int x26), (3, .int r8), (2, .int l3_2), (0, .ref (G.2.2.1 85))]) hx hb dX7_tryAllWays_96 hl (k := 0) rfl (by rw [ex34]; rfl) (by decide) rfl (fun ls hl => ?_)
                  refine lv_goto (tgt := 51) hx hb dX7_tryAllWays_99 (by decide) ?_
                  exact ihL28 _ _ _ _ _ h hP hS (lv_sub hl [0, 1, 2, 3, 4, 5] rfl)
                · have h := g_ift c30 h
                  refine lv_aload_n hx hb dX7_tryAllWays_69 rfl (lv_at hl 5 rfl) ?_
                  refine g_get hx hb ht hown hE hP (by decide) gE_85 uX7 rfl 5 (by decide) m_288 rfl rfl dX7_tryAllWays_70 ?_
                  refine lv_iload hx hb dX7_tryAllWays_73 (lv_at hl 0 rfl) ?_
                  refine lv_dup2_11 hx hb dX7_tryAllWays_75 rfl rfl ?_
                  obtain ⟨i35, h⟩ := g_ix h
                  refine g_iald hx hb hE hP (by decide) rfl (by decide) i35 dX7_tryAllWays_76 ?_
                  refine lv_iload hx hb dX7_tryAllWays_77 (lv_at hl 2 rfl) ?_
                  refine lv_ior hx hb dX7_tryAllWays_79 ?_
                  obtain ⟨i36, h⟩ := g_ix h
                  refine g_iast hx hb hE hP hS (by decide) rfl (by decide) i36 dX7_tryAllWays_80 (fun H locs σ37 eσ37 hP hS => ?_)
                  have h := g_nm eσ37 h
                  refine lv_goto (tgt := 96) hx hb dX7_tryAllWays_81 (by decide) ?_
                  obtain ⟨x38, ex38⟩ : ∃ y : Int32, y = l28_5 + 1 := ⟨_, rfl⟩
                  have h := g_nm ex38 h
                  refine lv_iinc (v := x38) (lv' := [(5, .int x38), (1, .int x27), (4, .int x26), (3, .int r8), (2, .int l3_2), (0, .ref (G.2.2.1 85))]) hx hb dX7_tryAllWays_96 hl (k := 0) rfl (by rw [ex38]; rfl) (by decide) rfl (fun ls hl => ?_)
                  refine lv_goto (tgt := 51) hx hb dX7_tryAllWays_99 (by decide) ?_
                  exact ihL28 _ _ _ _ _ h hP hS (lv_sub hl [0, 1, 2, 3, 4, 5] rfl)
          refine LPL28 _ (fun z39 σ40 H locs ls h hP hS hl => ?_) gFu _ _ _ _ _ h hP hS (lv_sub hl [0, 1, 2, 3, 4, 5] rfl)
          obtain ⟨x41, ex41⟩ : ∃ y : Int32, y = l3_2 + 1 := ⟨_, rfl⟩
          have h := g_nm ex41 h
          refine lv_iinc (v := x41) (lv' := [(2, .int x41), (5, .int z39), (1, .int x27), (4, .int x26), (3, .int r8), (0, .ref (G.2.2.1 85))]) hx hb dX7_tryAllWays_102 hl (k := 4) rfl (by rw [ex41]; rfl) (by decide) rfl (fun ls hl => ?_)
          refine lv_goto (tgt := 8) hx hb dX7_tryAllWays_105 (by decide) ?_
          exact ihL3 _ _ _ _ _ _ h hP hS (lv_sub hl [0, 2, 5] rfl)
  refine LPL3 _ (fun z42 z43 σ44 H locs ls h hP hS hl => ?_) gFu _ _ _ _ _ _ h hP hS (lv_sub hl [0, 1, 2] rfl)
  refine lv_iload_n hx hb dX7_tryAllWays_108 rfl (lv_at hl 1 rfl) ?_
  exact g_iret hx hb hr hlk hE hP hS h dX7_tryAllWays_109

def M_X7_couldBe (a1 a2 a3 : Int32) (σ : gSt) : gO :=
  gBd (M_X7_prepare a1 a2 a3 σ) (fun r2 σ1 => gBd (M_X7_tryAllWays σ1) (fun r4 σ3 => some (r4, σ3)))
set_option maxHeartbeats 4000000 in
set_option maxRecDepth 100000 in
theorem c_X7_couldBe (l : Launch) (G : gPar) (a1 a2 a3 : Int32) (σ : gSt) {r : Int32} {σ' : gSt} (h : M_X7_couldBe a1 a2 a3 σ = some (r, σ')) : gC l G yX7_couldBe cX7_couldBe 4 (some .int) 4 98 [.ref (G.2.2.1 85), .int a1, .int a2, .int a3] σ r σ' := by
  refine gC_of (by decide) (Nat.le_of_ble_eq_true rfl) ?_
  intro p e s m below meth c hx hb hr ht hown hlk hml hE hP ls hl
  have hS : va_S (gA G) s.heap s.heap [] := va_S.rf
  have hl : lv_has ls 4 [(0, .ref (G.2.2.1 85)), (1, .int a1), (2, .int a2), (3, .int a3)] := hl
  unfold M_X7_couldBe at h
  refine lv_aload_n hx hb dX7_couldBe_0 rfl (lv_at hl 0 rfl) ?_
  refine lv_iload_n hx hb dX7_couldBe_1 rfl (lv_at hl 1 rfl) ?_
  refine lv_iload_n hx hb dX7_couldBe_2 rfl (lv_at hl 2 rfl) ?_
  refine lv_iload_n hx hb dX7_couldBe_3 rfl (lv_at hl 3 rfl) ?_
  obtain ⟨r2, σ1, hcr2, h⟩ := g_bd h
  refine g_callVv (As := [.int a1, .int a2, .int a3]) (n := 3) hx hb hml hown ht (c_X7_prepare l G _ _ _ _ hcr2) m_486 m_488 m_2 m_38 m_489 (by decide +kernel) (by decide) gE_85 rfl hE hP hS (fun _ h => h) (fun _ _ h => h) rfl hl.1 rfl (Nat.le_of_ble_eq_true rfl) dX7_couldBe_4 ⟨by decide, by decide⟩ ⟨Nat.zero_le _, Nat.zero_le _⟩ (fun H locs hP hS => ?_)
  refine lv_aload_n hx hb dX7_couldBe_7 rfl (lv_at hl 0 rfl) ?_
  obtain ⟨r4, σ3, hcr4, h⟩ := g_bd h
  refine g_callV (As := []) (n := 0) hx hb hml hown ht (c_X7_tryAllWays l G _ hcr4) m_559 m_561 m_10 m_38 m_562 (by decide +kernel) (by decide) gE_85 rfl hE hP hS (fun _ h => h) (fun _ _ h => h) rfl hl.1 rfl (Nat.le_of_ble_eq_true rfl) dX7_couldBe_8 ⟨by decide, by decide⟩ ⟨Nat.zero_le _, Nat.zero_le _⟩ (fun H locs hP hS => ?_)
  exact g_iret hx hb hr hlk hE hP hS h dX7_couldBe_11

def M_J6_bitCount_0f7a4 (a1 : Int32) (σ : gSt) : gO :=
  gNm ((a1 - (((a1.toUInt32 >>> ((1 : Int32).toUInt32 &&& Int32.toUInt32 31)).toInt32) &&& 1431655765)) : Int32) (fun x1 => gNm (((x1 &&& 858993459) + (((x1.toUInt32 >>> ((2 : Int32).toUInt32 &&& Int32.toUInt32 31)).toInt32) &&& 858993459)) : Int32) (fun x2 => gNm (((x2 + ((x2.toUInt32 >>> ((4 : Int32).toUInt32 &&& Int32.toUInt32 31)).toInt32)) &&& 252645135) : Int32) (fun x3 => gNm ((x3 + ((x3.toUInt32 >>> ((8 : Int32).toUInt32 &&& Int32.toUInt32 31)).toInt32)) : Int32) (fun x4 => gNm ((x4 + ((x4.toUInt32 >>> ((16 : Int32).toUInt32 &&& Int32.toUInt32 31)).toInt32)) : Int32) (fun x5 => some ((x5 &&& 63), σ))))))
set_option maxHeartbeats 4000000 in
set_option maxRecDepth 100000 in
theorem c_J6_bitCount_0f7a4 (l : Launch) (G : gPar) (a1 : Int32) (σ : gSt) {r : Int32} {σ' : gSt} (h : M_J6_bitCount_0f7a4 a1 σ = some (r, σ')) : gC l G yJ6_bitCount_0f7a4 cJ6_bitCount_0f7a4 1 (some .int) 0 0 [.int a1] σ r σ' := by
  refine gC_of (by decide) (Nat.le_of_ble_eq_true rfl) ?_
  intro p e s m below meth c hx hb hr ht hown hlk hml hE hP ls hl
  have hS : va_S (gA G) s.heap s.heap [] := va_S.rf
  have hl : lv_has ls 1 [(0, .int a1)] := hl
  unfold M_J6_bitCount_0f7a4 at h
  refine lv_iload_n hx hb dJ6_bitCount_0f7a4_0 rfl (lv_at hl 0 rfl) ?_
  refine lv_iload_n hx hb dJ6_bitCount_0f7a4_1 rfl (lv_at hl 0 rfl) ?_
  refine lv_iconst (v := 1) hx hb dJ6_bitCount_0f7a4_2 (by decide) ?_
  refine lv_iushr (v := (a1.toUInt32 >>> ((1 : Int32).toUInt32 &&& Int32.toUInt32 31)).toInt32) hx hb dJ6_bitCount_0f7a4_3 rfl ?_
  refine lv_ldcw hx hb hown (ht _ m_587) dJ6_bitCount_0f7a4_4 ?_
  refine lv_iand hx hb dJ6_bitCount_0f7a4_7 ?_
  refine lv_isub hx hb dJ6_bitCount_0f7a4_8 ?_
  refine lv_topi (fun x1 ex1 => ?_)
  have h := g_nm ex1 h
  refine lv_istore_n (lv' := [(0, .int x1)]) hx hb dJ6_bitCount_0f7a4_9 rfl hl (by decide) rfl (fun ls hl => ?_)
  refine lv_iload_n hx hb dJ6_bitCount_0f7a4_10 rfl (lv_at hl 0 rfl) ?_
  refine lv_ldcw hx hb hown (ht _ m_588) dJ6_bitCount_0f7a4_11 ?_
  refine lv_iand hx hb dJ6_bitCount_0f7a4_14 ?_
  refine lv_iload_n hx hb dJ6_bitCount_0f7a4_15 rfl (lv_at hl 0 rfl) ?_
  refine lv_iconst (v := 2) hx hb dJ6_bitCount_0f7a4_16 (by decide) ?_
  refine lv_iushr (v := (x1.toUInt32 >>> ((2 : Int32).toUInt32 &&& Int32.toUInt32 31)).toInt32) hx hb dJ6_bitCount_0f7a4_17 rfl ?_
  refine lv_ldcw hx hb hown (ht _ m_588) dJ6_bitCount_0f7a4_18 ?_
  refine lv_iand hx hb dJ6_bitCount_0f7a4_21 ?_
  refine lv_iadd hx hb dJ6_bitCount_0f7a4_22 ?_
  refine lv_topi (fun x2 ex2 => ?_)
  have h := g_nm ex2 h
  refine lv_istore_n (lv' := [(0, .int x2)]) hx hb dJ6_bitCount_0f7a4_23 rfl hl (by decide) rfl (fun ls hl => ?_)
  refine lv_iload_n hx hb dJ6_bitCount_0f7a4_24 rfl (lv_at hl 0 rfl) ?_
  refine lv_iload_n hx hb dJ6_bitCount_0f7a4_25 rfl (lv_at hl 0 rfl) ?_
  refine lv_iconst (v := 4) hx hb dJ6_bitCount_0f7a4_26 (by decide) ?_
  refine lv_iushr (v := (x2.toUInt32 >>> ((4 : Int32).toUInt32 &&& Int32.toUInt32 31)).toInt32) hx hb dJ6_bitCount_0f7a4_27 rfl ?_
  refine lv_iadd hx hb dJ6_bitCount_0f7a4_28 ?_
  refine lv_ldcw hx hb hown (ht _ m_589) dJ6_bitCount_0f7a4_29 ?_
  refine lv_iand hx hb dJ6_bitCount_0f7a4_32 ?_
  refine lv_topi (fun x3 ex3 => ?_)
  have h := g_nm ex3 h
  refine lv_istore_n (lv' := [(0, .int x3)]) hx hb dJ6_bitCount_0f7a4_33 rfl hl (by decide) rfl (fun ls hl => ?_)
  refine lv_iload_n hx hb dJ6_bitCount_0f7a4_34 rfl (lv_at hl 0 rfl) ?_
  refine lv_iload_n hx hb dJ6_bitCount_0f7a4_35 rfl (lv_at hl 0 rfl) ?_
  refine lv_bipush (v := 8) hx hb dJ6_bitCount_0f7a4_36 (by decide) ?_
  refine lv_iushr (v := (x3.toUInt32 >>> ((8 : Int32).toUInt32 &&& Int32.toUInt32 31)).toInt32) hx hb dJ6_bitCount_0f7a4_38 rfl ?_
  refine lv_iadd hx hb dJ6_bitCount_0f7a4_39 ?_
  refine lv_topi (fun x4 ex4 => ?_)
  have h := g_nm ex4 h
  refine lv_istore_n (lv' := [(0, .int x4)]) hx hb dJ6_bitCount_0f7a4_40 rfl hl (by decide) rfl (fun ls hl => ?_)
  refine lv_iload_n hx hb dJ6_bitCount_0f7a4_41 rfl (lv_at hl 0 rfl) ?_
  refine lv_iload_n hx hb dJ6_bitCount_0f7a4_42 rfl (lv_at hl 0 rfl) ?_
  refine lv_bipush (v := 16) hx hb dJ6_bitCount_0f7a4_43 (by decide) ?_
  refine lv_iushr (v := (x4.toUInt32 >>> ((16 : Int32).toUInt32 &&& Int32.toUInt32 31)).toInt32) hx hb dJ6_bitCount_0f7a4_45 rfl ?_
  refine lv_iadd hx hb dJ6_bitCount_0f7a4_46 ?_
  refine lv_topi (fun x5 ex5 => ?_)
  have h := g_nm ex5 h
  refine lv_istore_n (lv' := [(0, .int x5)]) hx hb dJ6_bitCount_0f7a4_47 rfl hl (by decide) rfl (fun ls hl => ?_)
  refine lv_iload_n hx hb dJ6_bitCount_0f7a4_48 rfl (lv_at hl 0 rfl) ?_
  refine lv_bipush (v := 63) hx hb dJ6_bitCount_0f7a4_49 (by decide) ?_
  refine lv_iand hx hb dJ6_bitCount_0f7a4_51 ?_
  exact g_iret hx hb hr hlk hE hP hS h dJ6_bitCount_0f7a4_52

def L5_X7_bestQuestion (a1 a2 a3 : Int32) : Nat → Int32 → Int32 → Int32 → gSt → (Int32 → Int32 → Int32 → gSt → gO) → gO
  | 0, _, _, _, _, _ => none
  | nL5 + 1, l5_6, l5_5, l5_4, σL5, kL5 =>
    if (σL5 85 8) ≤ l5_6 then (kL5 l5_6 l5_5 l5_4 σL5) else (gIx 8 l5_6 (gBd (M_J6_bitCount_0f7a4 (σL5 90 l5_6.toNatClampNeg) σL5) (fun r9 σ8 => gIx 8 l5_6 (gBd (M_J6_bitCount_0f7a4 (σ8 91 l5_6.toNatClampNeg) σ8) (fun r12 σ11 => gNm ((if r9 < r12 then r12 else r9) : Int32) (fun x13 => if l5_5 ≤ x13 then (gNm (l5_6 + 1 : Int32) (fun x15 => L5_X7_bestQuestion a1 a2 a3 nL5 x15 l5_5 l5_4 σ11 kL5)) else (gIx 8 l5_6 (gNm ((σ11 89 l5_6.toNatClampNeg) : Int32) (fun x17 => gNm (l5_6 + 1 : Int32) (fun x18 => L5_X7_bestQuestion a1 a2 a3 nL5 x18 x13 x17 σ11 kL5))))))))))
def M_X7_bestQuestion (a1 a2 a3 : Int32) (σ : gSt) : gO :=
  gBd (M_X7_prepare a1 a2 a3 σ) (fun r2 σ1 => gBd (M_X7_tryAllWays σ1) (fun r4 σ3 => L5_X7_bestQuestion a1 a2 a3 gFu 0 8 (-100006) σ3 (fun z19 z20 z21 σ22 => some (z21, σ22))))
set_option maxHeartbeats 4000000 in
set_option maxRecDepth 100000 in
theorem c_X7_bestQuestion (l : Launch) (G : gPar) (a1 a2 a3 : Int32) (σ : gSt) {r : Int32} {σ' : gSt} (h : M_X7_bestQuestion a1 a2 a3 σ = some (r, σ')) : gC l G yX7_bestQuestion cX7_bestQuestion 8 (some .int) 4 98 [.ref (G.2.2.1 85), .int a1, .int a2, .int a3] σ r σ' := by
  refine gC_of (by decide) (Nat.le_of_ble_eq_true rfl) ?_
  intro p e s m below meth c hx hb hr ht hown hlk hml hE hP ls hl
  have hS : va_S (gA G) s.heap s.heap [] := va_S.rf
  have hl : lv_has ls 8 [(0, .ref (G.2.2.1 85)), (1, .int a1), (2, .int a2), (3, .int a3)] := hl
  unfold M_X7_bestQuestion at h
  refine lv_aload_n hx hb dX7_bestQuestion_0 rfl (lv_at hl 0 rfl) ?_
  refine lv_iload_n hx hb dX7_bestQuestion_1 rfl (lv_at hl 1 rfl) ?_
  refine lv_iload_n hx hb dX7_bestQuestion_2 rfl (lv_at hl 2 rfl) ?_
  refine lv_iload_n hx hb dX7_bestQuestion_3 rfl (lv_at hl 3 rfl) ?_
  obtain ⟨r2, σ1, hcr2, h⟩ := g_bd h
  refine g_callVv (As := [.int a1, .int a2, .int a3]) (n := 3) hx hb hml hown ht (c_X7_prepare l G _ _ _ _ hcr2) m_486 m_488 m_2 m_38 m_489 (by decide +kernel) (by decide) gE_85 rfl hE hP hS (fun _ h => h) (fun _ _ h => h) rfl hl.1 rfl (Nat.le_of_ble_eq_true rfl) dX7_bestQuestion_4 ⟨by decide, by decide⟩ ⟨Nat.zero_le _, Nat.zero_le _⟩ (fun H locs hP hS => ?_)
  refine lv_aload_n hx hb dX7_bestQuestion_7 rfl (lv_at hl 0 rfl) ?_
  obtain ⟨r4, σ3, hcr4, h⟩ := g_bd h
  refine g_callV (As := []) (n := 0) hx hb hml hown ht (c_X7_tryAllWays l G _ hcr4) m_559 m_561 m_10 m_38 m_562 (by decide +kernel) (by decide) gE_85 rfl hE hP hS (fun _ h => h) (fun _ _ h => h) rfl hl.1 rfl (Nat.le_of_ble_eq_true rfl) dX7_bestQuestion_8 ⟨by decide, by decide⟩ ⟨Nat.zero_le _, Nat.zero_le _⟩ (fun H locs hP hS => ?_)
  refine lv_pop hx hb dX7_bestQuestion_11 rfl ?_
  refine lv_ldc hx hb hown (ht _ m_583) dX7_bestQuestion_12 ?_
  refine lv_istore (lv' := [(4, .int (-100006)), (0, .ref (G.2.2.1 85)), (1, .int a1), (2, .int a2), (3, .int a3)]) hx hb dX7_bestQuestion_14 hl (by decide) rfl (fun ls hl => ?_)
  refine lv_bipush (v := 8) hx hb dX7_bestQuestion_16 (by decide) ?_
  refine lv_istore (lv' := [(5, .int 8), (4, .int (-100006)), (0, .ref (G.2.2.1 85)), (1, .int a1), (2, .int a2), (3, .int a3)]) hx hb dX7_bestQuestion_18 hl (by decide) rfl (fun ls hl => ?_)
  refine lv_iconst (v := 0) hx hb dX7_bestQuestion_20 (by decide) ?_
  refine lv_istore (lv' := [(6, .int 0), (5, .int 8), (4, .int (-100006)), (0, .ref (G.2.2.1 85)), (1, .int a1), (2, .int a2), (3, .int a3)]) hx hb dX7_bestQuestion_21 hl (by decide) rfl (fun ls hl => ?_)
  have LPL5 : ∀ (kL5 : Int32 → Int32 → Int32 → gSt → gO), (∀ (l5_6 l5_5 l5_4 : Int32) (σL5 : gSt) (H : Heap) (locs : List Loc) (ls : Array Slot), kL5 l5_6 l5_5 l5_4 σL5 = some (r, σ') → gW G σL5 H → va_S (gA G) s.heap H locs → lv_has ls 8 [(6, .int l5_6), (5, .int l5_5), (4, .int l5_4), (0, .ref (G.2.2.1 85)), (1, .int a1), (2, .int a2), (3, .int a3)] → W p l e (gRm 4 98) s m ([.ref (G.2.2.1 85), .int a1, .int a2, .int a3].toArray) below meth c H locs 0 0 (MQ below (gQ G r σ') ([.ref (G.2.2.1 85), .int a1, .int a2, .int a3].toArray) s 0 0 (gA G)) (F0 m 83 ls [])) → ∀ (nL5 : Nat) (l5_6 l5_5 l5_4 : Int32) (σL5 : gSt) (H : Heap) (locs : List Loc) (ls : Array Slot), L5_X7_bestQuestion a1 a2 a3 nL5 l5_6 l5_5 l5_4 σL5 kL5 = some (r, σ') → gW G σL5 H → va_S (gA G) s.heap H locs → lv_has ls 8 [(6, .int l5_6), (5, .int l5_5), (4, .int l5_4), (0, .ref (G.2.2.1 85)), (1, .int a1), (2, .int a2), (3, .int a3)] → W p l e (gRm 4 98) s m ([.ref (G.2.2.1 85), .int a1, .int a2, .int a3].toArray) below meth c H locs 0 0 (MQ below (gQ G r σ') ([.ref (G.2.2.1 85), .int a1, .int a2, .int a3].toArray) s 0 0 (gA G)) (F0 m 23 ls []) := by
    intro kL5 hKL5 nL5
    induction nL5 with
    | zero =>
      intro l5_6 l5_5 l5_4 σL5 H locs ls h
      cases h
    | succ nL5 ihL5 =>
      intro l5_6 l5_5 l5_4 σL5 H locs ls h hP hS hl
      rw [L5_X7_bestQuestion] at h
      refine lv_iload hx hb dX7_bestQuestion_23 (lv_at hl 0 rfl) ?_
      refine lv_aload_n hx hb dX7_bestQuestion_25 rfl (lv_at hl 3 rfl) ?_
      refine g_get hx hb ht hown hE hP (by decide) gE_85 uX7 rfl 8 (by decide) m_291 rfl rfl dX7_bestQuestion_26 ?_
      refine lv_icmp_ge (tgt := 83) hx hb dX7_bestQuestion_29 (by decide) (fun c6 => ?_) (fun c6 => ?_)
      · have h := g_ift c6 h
        exact hKL5 _ _ _ _ _ _ _ h hP hS (lv_sub hl [0, 1, 2, 3, 4, 5, 6] rfl)
      · have h := g_iff c6 h
        refine lv_aload_n hx hb dX7_bestQuestion_32 rfl (lv_at hl 3 rfl) ?_
        refine g_get hx hb ht hown hE hP (by decide) gE_85 uX7 rfl 5 (by decide) m_288 rfl rfl dX7_bestQuestion_33 ?_
        refine lv_iload hx hb dX7_bestQuestion_36 (lv_at hl 0 rfl) ?_
        obtain ⟨i7, h⟩ := g_ix h
        refine g_iald hx hb hE hP (by decide) rfl (by decide) i7 dX7_bestQuestion_38 ?_
        obtain ⟨r9, σ8, hcr9, h⟩ := g_bd h
        refine g_callS (As := [.int (σL5 90 l5_6.toNatClampNeg)]) (n := 1) hx hb hml hown ht (c_J6_bitCount_0f7a4 l G _ _ hcr9) m_584 m_585 m_42 m_586 (by decide +kernel) hE hP hS (fun _ h => h) (fun _ _ h => h) rfl hl.1 rfl (Nat.le_of_ble_eq_true rfl) dX7_bestQuestion_39 ⟨by decide, by decide⟩ ⟨Nat.zero_le _, Nat.zero_le _⟩ (fun H locs hP hS => ?_)
        refine lv_aload_n hx hb dX7_bestQuestion_42 rfl (lv_at hl 3 rfl) ?_
        refine g_get hx hb ht hown hE hP (by decide) gE_85 uX7 rfl 6 (by decide) m_289 rfl rfl dX7_bestQuestion_43 ?_
        refine lv_iload hx hb dX7_bestQuestion_46 (lv_at hl 0 rfl) ?_
        obtain ⟨i10, h⟩ := g_ix h
        refine g_iald hx hb hE hP (by decide) rfl (by decide) i10 dX7_bestQuestion_48 ?_
        obtain ⟨r12, σ11, hcr12, h⟩ := g_bd h
        refine g_callS (As := [.int (σ8 91 l5_6.toNatClampNeg)]) (n := 1) hx hb hml hown ht (c_J6_bitCount_0f7a4 l G _ _ hcr12) m_584 m_585 m_42 m_586 (by decide +kernel) hE hP hS (fun _ h => h) (fun _ _ h => h) rfl hl.1 rfl (Nat.le_of_ble_eq_true rfl) dX7_bestQuestion_49 ⟨by decide, by decide⟩ ⟨Nat.zero_le _, Nat.zero_le _⟩ (fun H locs hP hS => ?_)
        refine g_max hx hb (hml.trans hl.1.symm) hown ht m_590 m_591 m_43 m_592 (Nat.le_of_ble_eq_true rfl) (Nat.le_of_ble_eq_true rfl) ⟨Nat.zero_le _, Nat.zero_le _⟩ dX7_bestQuestion_52 ?_
        refine lv_topi (fun x13 ex13 => ?_)
        have h := g_nm ex13 h
        refine lv_istore (lv' := [(7, .int x13), (6, .int l5_6), (5, .int l5_5), (4, .int l5_4), (0, .ref (G.2.2.1 85)), (1, .int a1), (2, .int a2), (3, .int a3)]) hx hb dX7_bestQuestion_55 hl (by decide) rfl (fun ls hl => ?_)
        refine lv_iload hx hb dX7_bestQuestion_57 (lv_at hl 0 rfl) ?_
        refine lv_iload hx hb dX7_bestQuestion_59 (lv_at hl 2 rfl) ?_
        refine lv_icmp_ge (tgt := 77) hx hb dX7_bestQuestion_61 (by decide) (fun c14 => ?_) (fun c14 => ?_)
        · have h := g_ift c14 h
          obtain ⟨x15, ex15⟩ : ∃ y : Int32, y = l5_6 + 1 := ⟨_, rfl⟩
          have h := g_nm ex15 h
          refine lv_iinc (v := x15) (lv' := [(6, .int x15), (7, .int x13), (5, .int l5_5), (4, .int l5_4), (0, .ref (G.2.2.1 85)), (1, .int a1), (2, .int a2), (3, .int a3)]) hx hb dX7_bestQuestion_77 hl (k := 1) rfl (by rw [ex15]; rfl) (by decide) rfl (fun ls hl => ?_)
          refine lv_goto (tgt := 23) hx hb dX7_bestQuestion_80 (by decide) ?_
          exact ihL5 _ _ _ _ _ _ _ h hP hS (lv_sub hl [0, 2, 3, 4, 5, 6, 7] rfl)
        · have h := g_iff c14 h
          refine lv_iload hx hb dX7_bestQuestion_64 (lv_at hl 0 rfl) ?_
          refine lv_istore (lv' := [(5, .int x13), (7, .int x13), (6, .int l5_6), (4, .int l5_4), (0, .ref (G.2.2.1 85)), (1, .int a1), (2, .int a2), (3, .int a3)]) hx hb dX7_bestQuestion_66 hl (by decide) rfl (fun ls hl => ?_)
          refine lv_aload_n hx hb dX7_bestQuestion_68 rfl (lv_at hl 4 rfl) ?_
          refine g_get hx hb ht hown hE hP (by decide) gE_85 uX7 rfl 4 (by decide) m_287 rfl rfl dX7_bestQuestion_69 ?_
          refine lv_iload hx hb dX7_bestQuestion_72 (lv_at hl 2 rfl) ?_
          obtain ⟨i16, h⟩ := g_ix h
          refine g_iald hx hb hE hP (by decide) rfl (by decide) i16 dX7_bestQuestion_74 ?_
          refine lv_topi (fun x17 ex17 => ?_)
          have h := g_nm ex17 h
          refine lv_istore (lv' := [(4, .int x17), (5, .int x13), (7, .int x13), (6, .int l5_6), (0, .ref (G.2.2.1 85)), (1, .int a1), (2, .int a2), (3, .int a3)]) hx hb dX7_bestQuestion_75 hl (by decide) rfl (fun ls hl => ?_)
          obtain ⟨x18, ex18⟩ : ∃ y : Int32, y = l5_6 + 1 := ⟨_, rfl⟩
          have h := g_nm ex18 h
          refine lv_iinc (v := x18) (lv' := [(6, .int x18), (4, .int x17), (5, .int x13), (7, .int x13), (0, .ref (G.2.2.1 85)), (1, .int a1), (2, .int a2), (3, .int a3)]) hx hb dX7_bestQuestion_77 hl (k := 3) rfl (by rw [ex18]; rfl) (by decide) rfl (fun ls hl => ?_)
          refine lv_goto (tgt := 23) hx hb dX7_bestQuestion_80 (by decide) ?_
          exact ihL5 _ _ _ _ _ _ _ h hP hS (lv_sub hl [0, 2, 1, 4, 5, 6, 7] rfl)
  refine LPL5 _ (fun z19 z20 z21 σ22 H locs ls h hP hS hl => ?_) gFu _ _ _ _ _ _ _ h hP hS (lv_sub hl [0, 1, 2, 3, 4, 5, 6] rfl)
  refine lv_iload hx hb dX7_bestQuestion_83 (lv_at hl 2 rfl) ?_
  exact g_iret hx hb hr hlk hE hP hS h dX7_bestQuestion_85
