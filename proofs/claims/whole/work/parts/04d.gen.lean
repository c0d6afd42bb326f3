def M_X7_gainByFact (a1 a2 : Int32) (σ : gSt) : gO :=
  gIx 24 a1 (gNm ((σ 22 a1.toNatClampNeg) : Int32) (fun x2 => gIx 24 a1 (gNm ((σ 23 a1.toNatClampNeg) : Int32) (fun x4 => gIx 24 a1 (if (σ 18 a1.toNatClampNeg) = 0 then (gBd (M_X2_anyAtMost 1 x4 ((x4 - x2) + 1) σ) (fun r17 σ16 => if r17 = 0 then (some ((-1), σ16)) else (if a2 < x4 then (some ((-1), σ16)) else (some (x4, σ16))))) else (gIx 24 a1 (gBd (M_X2_anyAtMost 2 x2 (σ 21 a1.toNatClampNeg) σ) (fun r11 σ10 => if r11 = 0 then (some ((-1), σ10)) else (if a2 < x2 then (some ((-1), σ10)) else (some (x2, σ10)))))))))))
set_option maxHeartbeats 4000000 in
set_option maxRecDepth 100000 in
theorem c_X7_gainByFact (l : Launch) (G : gPar) (a1 a2 : Int32) (σ : gSt) {r : Int32} {σ' : gSt} (h : M_X7_gainByFact a1 a2 σ = some (r, σ')) : gC l G yX7_gainByFact cX7_gainByFact 8 (some .int) 2 47 [.ref (G.2.2.1 85), .int a1, .int a2] σ r σ' := by
  refine gC_of (by decide) (Nat.le_of_ble_eq_true rfl) ?_
  intro p e s m below meth c hx hb hr ht hown hlk hml hE hP ls hl
  have hS : va_S (gA G) s.heap s.heap [] := va_S.rf
  have hl : lv_has ls 8 [(0, .ref (G.2.2.1 85)), (1, .int a1), (2, .int a2)] := hl
  unfold M_X7_gainByFact at h
  refine lv_aload_n hx hb dX7_gainByFact_0 rfl (lv_at hl 0 rfl) ?_
  refine g_get hx hb ht hown hE hP (by decide) gE_85 uX7 rfl 0 (by decide) m_284 rfl rfl dX7_gainByFact_1 ?_
  refine g_get hx hb ht hown hE hP (by decide) gE_1 uX0 rfl 2 (by decide) m_252 rfl rfl dX7_gainByFact_4 ?_
  refine g_get hx hb ht hown hE hP (by decide) gE_17 uX1 rfl 5 (by decide) m_133 rfl rfl dX7_gainByFact_7 ?_
  refine lv_iload_n hx hb dX7_gainByFact_10 rfl (lv_at hl 1 rfl) ?_
  obtain ⟨i1, h⟩ := g_ix h
  refine g_iald hx hb hE hP (by decide) rfl (by decide) i1 dX7_gainByFact_11 ?_
  refine lv_topi (fun x2 ex2 => ?_)
  have h := g_nm ex2 h
  refine lv_istore_n (lv' := [(3, .int x2), (0, .ref (G.2.2.1 85)), (1, .int a1), (2, .int a2)]) hx hb dX7_gainByFact_12 rfl hl (by decide) rfl (fun ls hl => ?_)
  refine lv_aload_n hx hb dX7_gainByFact_13 rfl (lv_at hl 1 rfl) ?_
  refine g_get hx hb ht hown hE hP (by decide) gE_85 uX7 rfl 0 (by decide) m_284 rfl rfl dX7_gainByFact_14 ?_
  refine g_get hx hb ht hown hE hP (by decide) gE_1 uX0 rfl 2 (by decide) m_252 rfl rfl dX7_gainByFact_17 ?_
  refine g_get hx hb ht hown hE hP (by decide) gE_17 uX1 rfl 6 (by decide) m_135 rfl rfl dX7_gainByFact_20 ?_
  refine lv_iload_n hx hb dX7_gainByFact_23 rfl (lv_at hl 2 rfl) ?_
  obtain ⟨i3, h⟩ := g_ix h
  refine g_iald hx hb hE hP (by decide) rfl (by decide) i3 dX7_gainByFact_24 ?_
  refine lv_topi (fun x4 ex4 => ?_)
  have h := g_nm ex4 h
  refine lv_istore (lv' := [(4, .int x4), (3, .int x2), (0, .ref (G.2.2.1 85)), (1, .int a1), (2, .int a2)]) hx hb dX7_gainByFact_25 hl (by decide) rfl (fun ls hl => ?_)
  refine lv_aload_n hx hb dX7_gainByFact_27 rfl (lv_at hl 2 rfl) ?_
  refine g_get hx hb ht hown hE hP (by decide) gE_85 uX7 rfl 0 (by decide) m_284 rfl rfl dX7_gainByFact_28 ?_
  refine g_get hx hb ht hown hE hP (by decide) gE_1 uX0 rfl 2 (by decide) m_252 rfl rfl dX7_gainByFact_31 ?_
  refine g_get hx hb ht hown hE hP (by decide) gE_17 uX1 rfl 1 (by decide) m_125 rfl rfl dX7_gainByFact_34 ?_
  refine lv_iload_n hx hb dX7_gainByFact_37 rfl (lv_at hl 3 rfl) ?_
  obtain ⟨i5, h⟩ := g_ix h
  refine g_iald hx hb hE hP (by decide) rfl (by decide) i5 dX7_gainByFact_38 ?_
  refine lv_if_ne (tgt := 46) hx hb dX7_gainByFact_39 (by decide) (fun c6 => ?_) (fun c6 => ?_)
  · have h := g_iff c6 h
    refine lv_iconst (v := 0) hx hb dX7_gainByFact_46 (by decide) ?_
    refine lv_istore (lv' := [(5, .int 0), (4, .int x4), (3, .int x2), (0, .ref (G.2.2.1 85)), (1, .int a1), (2, .int a2)]) hx hb dX7_gainByFact_47 hl (by decide) rfl (fun ls hl => ?_)
    refine lv_iload hx hb dX7_gainByFact_49 (lv_at hl 0 rfl) ?_
    refine lv_if_eq (tgt := 59) hx hb dX7_gainByFact_51 (by decide) (fun _ => ?_) (fun c7 => absurd (by decide) c7)
    refine lv_iload_n hx hb dX7_gainByFact_59 rfl (lv_at hl 2 rfl) ?_
    refine lv_istore (lv' := [(6, .int x2), (5, .int 0), (4, .int x4), (3, .int x2), (0, .ref (G.2.2.1 85)), (1, .int a1), (2, .int a2)]) hx hb dX7_gainByFact_60 hl (by decide) rfl (fun ls hl => ?_)
    refine lv_iload hx hb dX7_gainByFact_62 (lv_at hl 1 rfl) ?_
    refine lv_if_eq (tgt := 89) hx hb dX7_gainByFact_64 (by decide) (fun _ => ?_) (fun c8 => absurd (by decide) c8)
    refine lv_aload_n hx hb dX7_gainByFact_89 rfl (lv_at hl 4 rfl) ?_
    refine g_get hx hb ht hown hE hP (by decide) gE_85 uX7 rfl 0 (by decide) m_284 rfl rfl dX7_gainByFact_90 ?_
    refine g_get hx hb ht hown hE hP (by decide) gE_1 uX0 rfl 3 (by decide) m_255 rfl rfl dX7_gainByFact_93 ?_
    refine lv_iconst (v := 2) hx hb dX7_gainByFact_96 (by decide) ?_
    refine lv_iload_n hx hb dX7_gainByFact_97 rfl (lv_at hl 3 rfl) ?_
    refine lv_aload_n hx hb dX7_gainByFact_98 rfl (lv_at hl 4 rfl) ?_
    refine g_get hx hb ht hown hE hP (by decide) gE_85 uX7 rfl 0 (by decide) m_284 rfl rfl dX7_gainByFact_99 ?_
    refine g_get hx hb ht hown hE hP (by decide) gE_1 uX0 rfl 2 (by decide) m_252 rfl rfl dX7_gainByFact_102 ?_
    refine g_get hx hb ht hown hE hP (by decide) gE_17 uX1 rfl 4 (by decide) m_131 rfl rfl dX7_gainByFact_105 ?_
    refine lv_iload_n hx hb dX7_gainByFact_108 rfl (lv_at hl 5 rfl) ?_
    obtain ⟨i9, h⟩ := g_ix h
    refine g_iald hx hb hE hP (by decide) rfl (by decide) i9 dX7_gainByFact_109 ?_
    obtain ⟨r11, σ10, hcr11, h⟩ := g_bd h
    refine g_callV (As := [.int 2, .int x2, .int (σ 21 a1.toNatClampNeg)]) (n := 3) hx hb hml hown ht (c_X2_anyAtMost l G _ _ _ _ hcr11) m_492 m_493 m_494 m_36 m_495 (by decide +kernel) (by decide) gE_26 rfl hE hP hS (fun _ h => h) (fun _ _ h => h) rfl hl.1 rfl (Nat.le_of_ble_eq_true rfl) dX7_gainByFact_110 ⟨by decide, by decide⟩ ⟨Nat.zero_le _, Nat.zero_le _⟩ (fun H locs hP hS => ?_)
    refine lv_istore (lv' := [(7, .int r11), (6, .int x2), (5, .int 0), (4, .int x4), (3, .int x2), (0, .ref (G.2.2.1 85)), (1, .int a1), (2, .int a2)]) hx hb dX7_gainByFact_113 hl (by decide) rfl (fun ls hl => ?_)
    refine lv_iload hx hb dX7_gainByFact_115 (lv_at hl 0 rfl) ?_
    refine lv_if_eq (tgt := 131) hx hb dX7_gainByFact_117 (by decide) (fun c12 => ?_) (fun c12 => ?_)
    · have h := g_ift c12 h
      refine lv_iconst (v := (-1)) hx hb dX7_gainByFact_131 (by decide) ?_
      exact g_iret hx hb hr hlk hE hP hS h dX7_gainByFact_132
    · have h := g_iff c12 h
      refine lv_iload hx hb dX7_gainByFact_120 (lv_at hl 1 rfl) ?_
      refine lv_iload_n hx hb dX7_gainByFact_122 rfl (lv_at hl 7 rfl) ?_
      refine lv_icmp_gt (tgt := 131) hx hb dX7_gainByFact_123 (by decide) (fun c13 => ?_) (fun c13 => ?_)
      · have h := g_ift c13 h
        refine lv_iconst (v := (-1)) hx hb dX7_gainByFact_131 (by decide) ?_
        exact g_iret hx hb hr hlk hE hP hS h dX7_gainByFact_132
      · have h := g_iff c13 h
        refine lv_iload hx hb dX7_gainByFact_126 (lv_at hl 1 rfl) ?_
        refine lv_goto (tgt := 132) hx hb dX7_gainByFact_128 (by decide) ?_
        exact g_iret hx hb hr hlk hE hP hS h dX7_gainByFact_132
  · have h := g_ift c6 h
    refine lv_iconst (v := 1) hx hb dX7_gainByFact_42 (by decide) ?_
    refine lv_goto (tgt := 47) hx hb dX7_gainByFact_43 (by decide) ?_
    refine lv_istore (lv' := [(5, .int 1), (4, .int x4), (3, .int x2), (0, .ref (G.2.2.1 85)), (1, .int a1), (2, .int a2)]) hx hb dX7_gainByFact_47 hl (by decide) rfl (fun ls hl => ?_)
    refine lv_iload hx hb dX7_gainByFact_49 (lv_at hl 0 rfl) ?_
    refine lv_if_eq (tgt := 59) hx hb dX7_gainByFact_51 (by decide) (fun c14 => absurd c14 (by decide)) (fun _ => ?_)
    refine lv_iload hx hb dX7_gainByFact_54 (lv_at hl 1 rfl) ?_
    refine lv_goto (tgt := 60) hx hb dX7_gainByFact_56 (by decide) ?_
    refine lv_istore (lv' := [(6, .int x4), (5, .int 1), (4, .int x4), (3, .int x2), (0, .ref (G.2.2.1 85)), (1, .int a1), (2, .int a2)]) hx hb dX7_gainByFact_60 hl (by decide) rfl (fun ls hl => ?_)
    refine lv_iload hx hb dX7_gainByFact_62 (lv_at hl 1 rfl) ?_
    refine lv_if_eq (tgt := 89) hx hb dX7_gainByFact_64 (by decide) (fun c15 => absurd c15 (by decide)) (fun _ => ?_)
    refine lv_aload_n hx hb dX7_gainByFact_67 rfl (lv_at hl 4 rfl) ?_
    refine g_get hx hb ht hown hE hP (by decide) gE_85 uX7 rfl 0 (by decide) m_284 rfl rfl dX7_gainByFact_68 ?_
    refine g_get hx hb ht hown hE hP (by decide) gE_1 uX0 rfl 3 (by decide) m_255 rfl rfl dX7_gainByFact_71 ?_
    refine lv_iconst (v := 1) hx hb dX7_gainByFact_74 (by decide) ?_
    refine lv_iload hx hb dX7_gainByFact_75 (lv_at hl 2 rfl) ?_
    refine lv_iload hx hb dX7_gainByFact_77 (lv_at hl 2 rfl) ?_
    refine lv_iload_n hx hb dX7_gainByFact_79 rfl (lv_at hl 3 rfl) ?_
    refine lv_isub hx hb dX7_gainByFact_80 ?_
    refine lv_iconst (v := 1) hx hb dX7_gainByFact_81 (by decide) ?_
    refine lv_iadd hx hb dX7_gainByFact_82 ?_
    obtain ⟨r17, σ16, hcr17, h⟩ := g_bd h
    refine g_callV (As := [.int 1, .int x4, .int ((x4 - x2) + 1)]) (n := 3) hx hb hml hown ht (c_X2_anyAtMost l G _ _ _ _ hcr17) m_492 m_493 m_494 m_36 m_495 (by decide +kernel) (by decide) gE_26 rfl hE hP hS (fun _ h => h) (fun _ _ h => h) rfl hl.1 rfl (Nat.le_of_ble_eq_true rfl) dX7_gainByFact_83 ⟨by decide, by decide⟩ ⟨Nat.zero_le _, Nat.zero_le _⟩ (fun H locs hP hS => ?_)
    refine lv_goto (tgt := 113) hx hb dX7_gainByFact_86 (by decide) ?_
    refine lv_istore (lv' := [(7, .int r17), (6, .int x4), (5, .int 1), (4, .int x4), (3, .int x2), (0, .ref (G.2.2.1 85)), (1, .int a1), (2, .int a2)]) hx hb dX7_gainByFact_113 hl (by decide) rfl (fun ls hl => ?_)
    refine lv_iload hx hb dX7_gainByFact_115 (lv_at hl 0 rfl) ?_
    refine lv_if_eq (tgt := 131) hx hb dX7_gainByFact_117 (by decide) (fun c18 => ?_) (fun c18 => ?_)
    · have h := g_ift c18 h
      refine lv_iconst (v := (-1)) hx hb dX7_gainByFact_131 (by decide) ?_
      exact g_iret hx hb hr hlk hE hP hS h dX7_gainByFact_132
    · have h := g_iff c18 h
      refine lv_iload hx hb dX7_gainByFact_120 (lv_at hl 1 rfl) ?_
      refine lv_iload_n hx hb dX7_gainByFact_122 rfl (lv_at hl 7 rfl) ?_
      refine lv_icmp_gt (tgt := 131) hx hb dX7_gainByFact_123 (by decide) (fun c19 => ?_) (fun c19 => ?_)
      · have h := g_ift c19 h
        refine lv_iconst (v := (-1)) hx hb dX7_gainByFact_131 (by decide) ?_
        exact g_iret hx hb hr hlk hE hP hS h dX7_gainByFact_132
      · have h := g_iff c19 h
        refine lv_iload hx hb dX7_gainByFact_126 (lv_at hl 1 rfl) ?_
        refine lv_goto (tgt := 132) hx hb dX7_gainByFact_128 (by decide) ?_
        exact g_iret hx hb hr hlk hE hP hS h dX7_gainByFact_132

def M_X7_gainByBirth (a1 a2 : Int32) (σ : gSt) : gO :=
  gIx 10 a1 (gNm ((σ 14 a1.toNatClampNeg) : Int32) (fun x2 => if a2 < x2 then (some ((-1), σ)) else (gBd (M_X2_anyRules 0 x2 σ) (fun r5 σ4 => if r5 = 0 then (some ((-1), σ4)) else (some (x2, σ4))))))
set_option maxHeartbeats 4000000 in
set_option maxRecDepth 100000 in
theorem c_X7_gainByBirth (l : Launch) (G : gPar) (a1 a2 : Int32) (σ : gSt) {r : Int32} {σ' : gSt} (h : M_X7_gainByBirth a1 a2 σ = some (r, σ')) : gC l G yX7_gainByBirth cX7_gainByBirth 4 (some .int) 2 46 [.ref (G.2.2.1 85), .int a1, .int a2] σ r σ' := by
  refine gC_of (by decide) (Nat.le_of_ble_eq_true rfl) ?_
  intro p e s m below meth c hx hb hr ht hown hlk hml hE hP ls hl
  have hS : va_S (gA G) s.heap s.heap [] := va_S.rf
  have hl : lv_has ls 4 [(0, .ref (G.2.2.1 85)), (1, .int a1), (2, .int a2)] := hl
  unfold M_X7_gainByBirth at h
  refine lv_aload_n hx hb dX7_gainByBirth_0 rfl (lv_at hl 0 rfl) ?_
  refine g_get hx hb ht hown hE hP (by decide) gE_85 uX7 rfl 0 (by decide) m_284 rfl rfl dX7_gainByBirth_1 ?_
  refine g_get hx hb ht hown hE hP (by decide) gE_1 uX0 rfl 1 (by decide) m_250 rfl rfl dX7_gainByBirth_4 ?_
  refine g_get hx hb ht hown hE hP (by decide) gE_11 uX5 rfl 3 (by decide) m_96 rfl rfl dX7_gainByBirth_7 ?_
  refine lv_iload_n hx hb dX7_gainByBirth_10 rfl (lv_at hl 1 rfl) ?_
  obtain ⟨i1, h⟩ := g_ix h
  refine g_iald hx hb hE hP (by decide) rfl (by decide) i1 dX7_gainByBirth_11 ?_
  refine lv_topi (fun x2 ex2 => ?_)
  have h := g_nm ex2 h
  refine lv_istore_n (lv' := [(3, .int x2), (0, .ref (G.2.2.1 85)), (1, .int a1), (2, .int a2)]) hx hb dX7_gainByBirth_12 rfl hl (by decide) rfl (fun ls hl => ?_)
  refine lv_iload_n hx hb dX7_gainByBirth_13 rfl (lv_at hl 0 rfl) ?_
  refine lv_iload_n hx hb dX7_gainByBirth_14 rfl (lv_at hl 3 rfl) ?_
  refine lv_icmp_gt (tgt := 37) hx hb dX7_gainByBirth_15 (by decide) (fun c3 => ?_) (fun c3 => ?_)
  · have h := g_ift c3 h
    refine lv_iconst (v := (-1)) hx hb dX7_gainByBirth_37 (by decide) ?_
    exact g_iret hx hb hr hlk hE hP hS h dX7_gainByBirth_38
  · have h := g_iff c3 h
    refine lv_aload_n hx hb dX7_gainByBirth_18 rfl (lv_at hl 1 rfl) ?_
    refine g_get hx hb ht hown hE hP (by decide) gE_85 uX7 rfl 0 (by decide) m_284 rfl rfl dX7_gainByBirth_19 ?_
    refine g_get hx hb ht hown hE hP (by decide) gE_1 uX0 rfl 3 (by decide) m_255 rfl rfl dX7_gainByBirth_22 ?_
    refine lv_iconst (v := 0) hx hb dX7_gainByBirth_25 (by decide) ?_
    refine lv_iload_n hx hb dX7_gainByBirth_26 rfl (lv_at hl 0 rfl) ?_
    obtain ⟨r5, σ4, hcr5, h⟩ := g_bd h
    refine g_callV (As := [.int 0, .int x2]) (n := 2) hx hb hml hown ht (c_X2_anyRules l G _ _ _ hcr5) m_505 m_506 m_507 m_36 m_508 (by decide +kernel) (by decide) gE_26 rfl hE hP hS (fun _ h => h) (fun _ _ h => h) rfl hl.1 rfl (Nat.le_of_ble_eq_true rfl) dX7_gainByBirth_27 ⟨by decide, by decide⟩ ⟨Nat.zero_le _, Nat.zero_le _⟩ (fun H locs hP hS => ?_)
    refine lv_if_eq (tgt := 37) hx hb dX7_gainByBirth_30 (by decide) (fun c6 => ?_) (fun c6 => ?_)
    · have h := g_ift c6 h
      refine lv_iconst (v := (-1)) hx hb dX7_gainByBirth_37 (by decide) ?_
      exact g_iret hx hb hr hlk hE hP hS h dX7_gainByBirth_38
    · have h := g_iff c6 h
      refine lv_iload_n hx hb dX7_gainByBirth_33 rfl (lv_at hl 0 rfl) ?_
      refine lv_goto (tgt := 38) hx hb dX7_gainByBirth_34 (by decide) ?_
      exact g_iret hx hb hr hlk hE hP hS h dX7_gainByBirth_38

def M_X7_leaderOf (a1 a2 : Int32) (σ : gSt) : gO :=
  gIx 10 a1 (gNm ((σ 14 a1.toNatClampNeg) : Int32) (fun x2 => gIx 10 a1 (gNm ((σ 16 a1.toNatClampNeg) : Int32) (fun x4 => gIx 10 a1 (if (σ 12 a1.toNatClampNeg) = 1 then (if a2 < x4 then (some ((-1), σ)) else (gBd (M_X2_anyRules 3 x4 σ) (fun r21 σ20 => if r21 = 0 then (some ((-1), σ20)) else (gIx 10 a1 (some ((σ20 15 a1.toNatClampNeg), σ20)))))) else (gIx 10 a1 (if (σ 12 a1.toNatClampNeg) = 2 then (if a2 < x2 then (some ((-1), σ)) else (gBd (M_X2_anyAbove 4 x2 (a2 - x2) σ) (fun r13 σ12 => if r13 = 0 then (some ((-1), σ12)) else (gIx 10 a1 (some ((σ12 15 a1.toNatClampNeg), σ12)))))) else (some ((-1), σ)))))))))
set_option maxHeartbeats 4000000 in
set_option maxRecDepth 100000 in
theorem c_X7_leaderOf (l : Launch) (G : gPar) (a1 a2 : Int32) (σ : gSt) {r : Int32} {σ' : gSt} (h : M_X7_leaderOf a1 a2 σ = some (r, σ')) : gC l G yX7_leaderOf cX7_leaderOf 6 (some .int) 2 47 [.ref (G.2.2.1 85), .int a1, .int a2] σ r σ' := by
  refine gC_of (by decide) (Nat.le_of_ble_eq_true rfl) ?_
  intro p e s m below meth c hx hb hr ht hown hlk hml hE hP ls hl
  have hS : va_S (gA G) s.heap s.heap [] := va_S.rf
  have hl : lv_has ls 6 [(0, .ref (G.2.2.1 85)), (1, .int a1), (2, .int a2)] := hl
  unfold M_X7_leaderOf at h
  refine lv_aload_n hx hb dX7_leaderOf_0 rfl (lv_at hl 0 rfl) ?_
  refine g_get hx hb ht hown hE hP (by decide) gE_85 uX7 rfl 0 (by decide) m_284 rfl rfl dX7_leaderOf_1 ?_
  refine g_get hx hb ht hown hE hP (by decide) gE_1 uX0 rfl 1 (by decide) m_250 rfl rfl dX7_leaderOf_4 ?_
  refine g_get hx hb ht hown hE hP (by decide) gE_11 uX5 rfl 3 (by decide) m_96 rfl rfl dX7_leaderOf_7 ?_
  refine lv_iload_n hx hb dX7_leaderOf_10 rfl (lv_at hl 1 rfl) ?_
  obtain ⟨i1, h⟩ := g_ix h
  refine g_iald hx hb hE hP (by decide) rfl (by decide) i1 dX7_leaderOf_11 ?_
  refine lv_topi (fun x2 ex2 => ?_)
  have h := g_nm ex2 h
  refine lv_istore_n (lv' := [(3, .int x2), (0, .ref (G.2.2.1 85)), (1, .int a1), (2, .int a2)]) hx hb dX7_leaderOf_12 rfl hl (by decide) rfl (fun ls hl => ?_)
  refine lv_aload_n hx hb dX7_leaderOf_13 rfl (lv_at hl 1 rfl) ?_
  refine g_get hx hb ht hown hE hP (by decide) gE_85 uX7 rfl 0 (by decide) m_284 rfl rfl dX7_leaderOf_14 ?_
  refine g_get hx hb ht hown hE hP (by decide) gE_1 uX0 rfl 1 (by decide) m_250 rfl rfl dX7_leaderOf_17 ?_
  refine g_get hx hb ht hown hE hP (by decide) gE_11 uX5 rfl 5 (by decide) m_101 rfl rfl dX7_leaderOf_20 ?_
  refine lv_iload_n hx hb dX7_leaderOf_23 rfl (lv_at hl 2 rfl) ?_
  obtain ⟨i3, h⟩ := g_ix h
  refine g_iald hx hb hE hP (by decide) rfl (by decide) i3 dX7_leaderOf_24 ?_
  refine lv_topi (fun x4 ex4 => ?_)
  have h := g_nm ex4 h
  refine lv_istore (lv' := [(4, .int x4), (3, .int x2), (0, .ref (G.2.2.1 85)), (1, .int a1), (2, .int a2)]) hx hb dX7_leaderOf_25 hl (by decide) rfl (fun ls hl => ?_)
  refine lv_iconst (v := 0) hx hb dX7_leaderOf_27 (by decide) ?_
  refine lv_istore (lv' := [(5, .int 0), (4, .int x4), (3, .int x2), (0, .ref (G.2.2.1 85)), (1, .int a1), (2, .int a2)]) hx hb dX7_leaderOf_28 hl (by decide) rfl (fun ls hl => ?_)
  refine lv_aload_n hx hb dX7_leaderOf_30 rfl (lv_at hl 3 rfl) ?_
  refine g_get hx hb ht hown hE hP (by decide) gE_85 uX7 rfl 0 (by decide) m_284 rfl rfl dX7_leaderOf_31 ?_
  refine g_get hx hb ht hown hE hP (by decide) gE_1 uX0 rfl 1 (by decide) m_250 rfl rfl dX7_leaderOf_34 ?_
  refine g_get hx hb ht hown hE hP (by decide) gE_11 uX5 rfl 1 (by decide) m_92 rfl rfl dX7_leaderOf_37 ?_
  refine lv_iload_n hx hb dX7_leaderOf_40 rfl (lv_at hl 4 rfl) ?_
  obtain ⟨i5, h⟩ := g_ix h
  refine g_iald hx hb hE hP (by decide) rfl (by decide) i5 dX7_leaderOf_41 ?_
  refine lv_iconst (v := 1) hx hb dX7_leaderOf_42 (by decide) ?_
  refine lv_icmp_ne (tgt := 78) hx hb dX7_leaderOf_43 (by decide) (fun c6 => ?_) (fun c6 => ?_)
  · have h := g_iff c6 h
    refine lv_aload_n hx hb dX7_leaderOf_78 rfl (lv_at hl 3 rfl) ?_
    refine g_get hx hb ht hown hE hP (by decide) gE_85 uX7 rfl 0 (by decide) m_284 rfl rfl dX7_leaderOf_79 ?_
    refine g_get hx hb ht hown hE hP (by decide) gE_1 uX0 rfl 1 (by decide) m_250 rfl rfl dX7_leaderOf_82 ?_
    refine g_get hx hb ht hown hE hP (by decide) gE_11 uX5 rfl 1 (by decide) m_92 rfl rfl dX7_leaderOf_85 ?_
    refine lv_iload_n hx hb dX7_leaderOf_88 rfl (lv_at hl 4 rfl) ?_
    obtain ⟨i7, h⟩ := g_ix h
    refine g_iald hx hb hE hP (by decide) rfl (by decide) i7 dX7_leaderOf_89 ?_
    refine lv_iconst (v := 2) hx hb dX7_leaderOf_90 (by decide) ?_
    refine lv_icmp_ne (tgt := 124) hx hb dX7_leaderOf_91 (by decide) (fun c8 => ?_) (fun c8 => ?_)
    · have h := g_iff c8 h
      refine lv_iload hx hb dX7_leaderOf_124 (lv_at hl 0 rfl) ?_
      refine lv_if_eq (tgt := 144) hx hb dX7_leaderOf_126 (by decide) (fun _ => ?_) (fun c9 => absurd (by decide) c9)
      refine lv_iconst (v := (-1)) hx hb dX7_leaderOf_144 (by decide) ?_
      exact g_iret hx hb hr hlk hE hP hS h dX7_leaderOf_145
    · have h := g_ift c8 h
      refine lv_iload_n hx hb dX7_leaderOf_94 rfl (lv_at hl 2 rfl) ?_
      refine lv_iload_n hx hb dX7_leaderOf_95 rfl (lv_at hl 5 rfl) ?_
      refine lv_icmp_gt (tgt := 121) hx hb dX7_leaderOf_96 (by decide) (fun c10 => ?_) (fun c10 => ?_)
      · have h := g_ift c10 h
        refine lv_iconst (v := 0) hx hb dX7_leaderOf_121 (by decide) ?_
        refine lv_istore (lv' := [(5, .int 0), (4, .int x4), (3, .int x2), (0, .ref (G.2.2.1 85)), (1, .int a1), (2, .int a2)]) hx hb dX7_leaderOf_122 hl (by decide) rfl (fun ls hl => ?_)
        refine lv_iload hx hb dX7_leaderOf_124 (lv_at hl 0 rfl) ?_
        refine lv_if_eq (tgt := 144) hx hb dX7_leaderOf_126 (by decide) (fun _ => ?_) (fun c11 => absurd (by decide) c11)
        refine lv_iconst (v := (-1)) hx hb dX7_leaderOf_144 (by decide) ?_
        exact g_iret hx hb hr hlk hE hP hS h dX7_leaderOf_145
      · have h := g_iff c10 h
        refine lv_aload_n hx hb dX7_leaderOf_99 rfl (lv_at hl 3 rfl) ?_
        refine g_get hx hb ht hown hE hP (by decide) gE_85 uX7 rfl 0 (by decide) m_284 rfl rfl dX7_leaderOf_100 ?_
        refine g_get hx hb ht hown hE hP (by decide) gE_1 uX0 rfl 3 (by decide) m_255 rfl rfl dX7_leaderOf_103 ?_
        refine lv_iconst (v := 4) hx hb dX7_leaderOf_106 (by decide) ?_
        refine lv_iload_n hx hb dX7_leaderOf_107 rfl (lv_at hl 2 rfl) ?_
        refine lv_iload_n hx hb dX7_leaderOf_108 rfl (lv_at hl 5 rfl) ?_
        refine lv_iload_n hx hb dX7_leaderOf_109 rfl (lv_at hl 2 rfl) ?_
        refine lv_isub hx hb dX7_leaderOf_110 ?_
        obtain ⟨r13, σ12, hcr13, h⟩ := g_bd h
        refine g_callV (As := [.int 4, .int x2, .int (a2 - x2)]) (n := 3) hx hb hml hown ht (c_X2_anyAbove l G _ _ _ _ hcr13) m_513 m_514 m_515 m_36 m_516 (by decide +kernel) (by decide) gE_26 rfl hE hP hS (fun _ h => h) (fun _ _ h => h) rfl hl.1 rfl (Nat.le_of_ble_eq_true rfl) dX7_leaderOf_111 ⟨by decide, by decide⟩ ⟨Nat.zero_le _, Nat.zero_le _⟩ (fun H locs hP hS => ?_)
        refine lv_if_eq (tgt := 121) hx hb dX7_leaderOf_114 (by decide) (fun c14 => ?_) (fun c14 => ?_)
        · have h := g_ift c14 h
          refine lv_iconst (v := 0) hx hb dX7_leaderOf_121 (by decide) ?_
          refine lv_istore (lv' := [(5, .int 0), (4, .int x4), (3, .int x2), (0, .ref (G.2.2.1 85)), (1, .int a1), (2, .int a2)]) hx hb dX7_leaderOf_122 hl (by decide) rfl (fun ls hl => ?_)
          refine lv_iload hx hb dX7_leaderOf_124 (lv_at hl 0 rfl) ?_
          refine lv_if_eq (tgt := 144) hx hb dX7_leaderOf_126 (by decide) (fun _ => ?_) (fun c15 => absurd (by decide) c15)
          refine lv_iconst (v := (-1)) hx hb dX7_leaderOf_144 (by decide) ?_
          exact g_iret hx hb hr hlk hE hP hS h dX7_leaderOf_145
        · have h := g_iff c14 h
          refine lv_iconst (v := 1) hx hb dX7_leaderOf_117 (by decide) ?_
          refine lv_goto (tgt := 122) hx hb dX7_leaderOf_118 (by decide) ?_
          refine lv_istore (lv' := [(5, .int 1), (4, .int x4), (3, .int x2), (0, .ref (G.2.2.1 85)), (1, .int a1), (2, .int a2)]) hx hb dX7_leaderOf_122 hl (by decide) rfl (fun ls hl => ?_)
          refine lv_iload hx hb dX7_leaderOf_124 (lv_at hl 0 rfl) ?_
          refine lv_if_eq (tgt := 144) hx hb dX7_leaderOf_126 (by decide) (fun c16 => absurd c16 (by decide)) (fun _ => ?_)
          refine lv_aload_n hx hb dX7_leaderOf_129 rfl (lv_at hl 3 rfl) ?_
          refine g_get hx hb ht hown hE hP (by decide) gE_85 uX7 rfl 0 (by decide) m_284 rfl rfl dX7_leaderOf_130 ?_
          refine g_get hx hb ht hown hE hP (by decide) gE_1 uX0 rfl 1 (by decide) m_250 rfl rfl dX7_leaderOf_133 ?_
          refine g_get hx hb ht hown hE hP (by decide) gE_11 uX5 rfl 4 (by decide) m_99 rfl rfl dX7_leaderOf_136 ?_
          refine lv_iload_n hx hb dX7_leaderOf_139 rfl (lv_at hl 4 rfl) ?_
          obtain ⟨i17, h⟩ := g_ix h
          refine g_iald hx hb hE hP (by decide) rfl (by decide) i17 dX7_leaderOf_140 ?_
          refine lv_goto (tgt := 145) hx hb dX7_leaderOf_141 (by decide) ?_
          exact g_iret hx hb hr hlk hE hP hS h dX7_leaderOf_145
  · have h := g_ift c6 h
    refine lv_iload hx hb dX7_leaderOf_46 (lv_at hl 1 rfl) ?_
    refine lv_iload_n hx hb dX7_leaderOf_48 rfl (lv_at hl 5 rfl) ?_
    refine lv_icmp_gt (tgt := 72) hx hb dX7_leaderOf_49 (by decide) (fun c18 => ?_) (fun c18 => ?_)
    · have h := g_ift c18 h
      refine lv_iconst (v := 0) hx hb dX7_leaderOf_72 (by decide) ?_
      refine lv_istore (lv' := [(5, .int 0), (4, .int x4), (3, .int x2), (0, .ref (G.2.2.1 85)), (1, .int a1), (2, .int a2)]) hx hb dX7_leaderOf_73 hl (by decide) rfl (fun ls hl => ?_)
      refine lv_goto (tgt := 124) hx hb dX7_leaderOf_75 (by decide) ?_
      refine lv_iload hx hb dX7_leaderOf_124 (lv_at hl 0 rfl) ?_
      refine lv_if_eq (tgt := 144) hx hb dX7_leaderOf_126 (by decide) (fun _ => ?_) (fun c19 => absurd (by decide) c19)
      refine lv_iconst (v := (-1)) hx hb dX7_leaderOf_144 (by decide) ?_
      exact g_iret hx hb hr hlk hE hP hS h dX7_leaderOf_145
    · have h := g_iff c18 h
      refine lv_aload_n hx hb dX7_leaderOf_52 rfl (lv_at hl 3 rfl) ?_
      refine g_get hx hb ht hown hE hP (by decide) gE_85 uX7 rfl 0 (by decide) m_284 rfl rfl dX7_leaderOf_53 ?_
      refine g_get hx hb ht hown hE hP (by decide) gE_1 uX0 rfl 3 (by decide) m_255 rfl rfl dX7_leaderOf_56 ?_
      refine lv_iconst (v := 3) hx hb dX7_leaderOf_59 (by decide) ?_
      refine lv_iload hx hb dX7_leaderOf_60 (lv_at hl 1 rfl) ?_
      obtain ⟨r21, σ20, hcr21, h⟩ := g_bd h
      refine g_callV (As := [.int 3, .int x4]) (n := 2) hx hb hml hown ht (c_X2_anyRules l G _ _ _ hcr21) m_505 m_506 m_507 m_36 m_508 (by decide +kernel) (by decide) gE_26 rfl hE hP hS (fun _ h => h) (fun _ _ h => h) rfl hl.1 rfl (Nat.le_of_ble_eq_true rfl) dX7_leaderOf_62 ⟨by decide, by decide⟩ ⟨Nat.zero_le _, Nat.zero_le _⟩ (fun H locs hP hS => ?_)
      refine lv_if_eq (tgt := 72) hx hb dX7_leaderOf_65 (by decide) (fun c22 => ?_) (fun c22 => ?_)
      · have h := g_ift c22 h
        refine lv_iconst (v := 0) hx hb dX7_leaderOf_72 (by decide) ?_
        refine lv_istore (lv' := [(5, .int 0), (4, .int x4), (3, .int x2), (0, .ref (G.2.2.1 85)), (1, .int a1), (2, .int a2)]) hx hb dX7_leaderOf_73 hl (by decide) rfl (fun ls hl => ?_)
        refine lv_goto (tgt := 124) hx hb dX7_leaderOf_75 (by decide) ?_
        refine lv_iload hx hb dX7_leaderOf_124 (lv_at hl 0 rfl) ?_
        refine lv_if_eq (tgt := 144) hx hb dX7_leaderOf_126 (by decide) (fun _ => ?_) (fun c23 => absurd (by decide) c23)
        refine lv_iconst (v := (-1)) hx hb dX7_leaderOf_144 (by decide) ?_
        exact g_iret hx hb hr hlk hE hP hS h dX7_leaderOf_145
      · have h := g_iff c22 h
        refine lv_iconst (v := 1) hx hb dX7_leaderOf_68 (by decide) ?_
        refine lv_goto (tgt := 73) hx hb dX7_leaderOf_69 (by decide) ?_
        refine lv_istore (lv' := [(5, .int 1), (4, .int x4), (3, .int x2), (0, .ref (G.2.2.1 85)), (1, .int a1), (2, .int a2)]) hx hb dX7_leaderOf_73 hl (by decide) rfl (fun ls hl => ?_)
        refine lv_goto (tgt := 124) hx hb dX7_leaderOf_75 (by decide) ?_
        refine lv_iload hx hb dX7_leaderOf_124 (lv_at hl 0 rfl) ?_
        refine lv_if_eq (tgt := 144) hx hb dX7_leaderOf_126 (by decide) (fun c24 => absurd c24 (by decide)) (fun _ => ?_)
        refine lv_aload_n hx hb dX7_leaderOf_129 rfl (lv_at hl 3 rfl) ?_
        refine g_get hx hb ht hown hE hP (by decide) gE_85 uX7 rfl 0 (by decide) m_284 rfl rfl dX7_leaderOf_130 ?_
        refine g_get hx hb ht hown hE hP (by decide) gE_1 uX0 rfl 1 (by decide) m_250 rfl rfl dX7_leaderOf_133 ?_
        refine g_get hx hb ht hown hE hP (by decide) gE_11 uX5 rfl 4 (by decide) m_99 rfl rfl dX7_leaderOf_136 ?_
        refine lv_iload_n hx hb dX7_leaderOf_139 rfl (lv_at hl 4 rfl) ?_
        obtain ⟨i25, h⟩ := g_ix h
        refine g_iald hx hb hE hP (by decide) rfl (by decide) i25 dX7_leaderOf_140 ?_
        refine lv_goto (tgt := 145) hx hb dX7_leaderOf_141 (by decide) ?_
        exact g_iret hx hb hr hlk hE hP hS h dX7_leaderOf_145

def L1_X7_prepare (a1 a2 a3 : Int32) : Nat → Int32 → gSt → (Int32 → gSt → gO) → gO
  | 0, _, _, _ => none
  | nL1 + 1, l1_4, σL1, kL1 =>
    if (σL1 17 0) ≤ l1_4 then (kL1 l1_4 σL1) else (gIx 24 l1_4 (if a3 < (σL1 24 l1_4.toNatClampNeg) then (gIx 24 l1_4 (gNm (gUp σL1 86 l1_4.toNatClampNeg (-1)) (fun σ6 => gNm (l1_4 + 1 : Int32) (fun x7 => L1_X7_prepare a1 a2 a3 nL1 x7 σ6 kL1)))) else (gBd (M_X7_gainByFact l1_4 a2 σL1) (fun r9 σ8 => gIx 24 l1_4 (gNm (gUp σ8 86 l1_4.toNatClampNeg r9) (fun σ11 => gNm (l1_4 + 1 : Int32) (fun x12 => L1_X7_prepare a1 a2 a3 nL1 x12 σ11 kL1)))))))
def L16_X7_prepare (a1 a2 a3 : Int32) : Nat → Int32 → gSt → (Int32 → gSt → gO) → gO
  | 0, _, _, _ => none
  | nL16 + 1, l16_4, σL16, kL16 =>
    if 10 ≤ (σL16 85 6) then (kL16 l16_4 σL16) else (gBd (M_X5_has l16_4 σL16) (fun r19 σ18 => if r19 = 0 then (kL16 l16_4 σ18) else (gIx 10 (σ18 85 6) (gNm (gUp σ18 87 (σ18 85 6).toNatClampNeg l16_4) (fun σ22 => gBd (M_X7_gainByBirth l16_4 a2 σ22) (fun r24 σ23 => gIx 10 (σ22 85 6) (gNm (gUp σ23 88 (σ22 85 6).toNatClampNeg r24) (fun σ26 => gNm (gUp σ26 85 6 ((σ26 85 6) + 1)) (fun σ27 => gBd (M_X7_leaderOf l16_4 a2 σ27) (fun r29 σ28 => L16_X7_prepare a1 a2 a3 nL16 r29 σ28 kL16))))))))))
def M_X7_prepare (a1 a2 a3 : Int32) (σ : gSt) : gO :=
  L1_X7_prepare a1 a2 a3 gFu 0 σ (fun z13 σ14 => gNm (gUp σ14 85 6 0) (fun σ15 => L16_X7_prepare a1 a2 a3 gFu a1 σ15 (fun z30 σ31 => some (0, σ31))))
set_option maxHeartbeats 4000000 in
set_option maxRecDepth 100000 in
theorem c_X7_prepare (l : Launch) (G : gPar) (a1 a2 a3 : Int32) (σ : gSt) {r : Int32} {σ' : gSt} (h : M_X7_prepare a1 a2 a3 σ = some (r, σ')) : gV l G yX7_prepare cX7_prepare 5 3 74 [.ref (G.2.2.1 85), .int a1, .int a2, .int a3] σ σ' := by
  refine gV_of (by decide) (Nat.le_of_ble_eq_true rfl) ?_
  intro p e s m below meth c hx hb hr ht hown hlk hml hE hP ls hl
  have hS : va_S (gA G) s.heap s.heap [] := va_S.rf
  have hl : lv_has ls 5 [(0, .ref (G.2.2.1 85)), (1, .int a1), (2, .int a2), (3, .int a3)] := hl
  unfold M_X7_prepare at h
  refine lv_iconst (v := 0) hx hb dX7_prepare_0 (by decide) ?_
  refine lv_istore (lv' := [(4, .int 0), (0, .ref (G.2.2.1 85)), (1, .int a1), (2, .int a2), (3, .int a3)]) hx hb dX7_prepare_1 hl (by decide) rfl (fun ls hl => ?_)
  have LPL1 : ∀ (kL1 : Int32 → gSt → gO), (∀ (l1_4 : Int32) (σL1 : gSt) (H : Heap) (locs : List Loc) (ls : Array Slot), kL1 l1_4 σL1 = some (r, σ') → gW G σL1 H → va_S (gA G) s.heap H locs → lv_has ls 5 [(4, .int l1_4), (0, .ref (G.2.2.1 85)), (1, .int a1), (2, .int a2), (3, .int a3)] → W p l e (gRm 3 74) s m ([.ref (G.2.2.1 85), .int a1, .int a2, .int a3].toArray) below meth c H locs 0 0 (MQ below (gQv G σ') ([.ref (G.2.2.1 85), .int a1, .int a2, .int a3].toArray) s 0 0 (gA G)) (F0 m 59 ls [])) → ∀ (nL1 : Nat) (l1_4 : Int32) (σL1 : gSt) (H : Heap) (locs : List Loc) (ls : Array Slot), L1_X7_prepare a1 a2 a3 nL1 l1_4 σL1 kL1 = some (r, σ') → gW G σL1 H → va_S (gA G) s.heap H locs → lv_has ls 5 [(4, .int l1_4), (0, .ref (G.2.2.1 85)), (1, .int a1), (2, .int a2), (3, .int a3)] → W p l e (gRm 3 74) s m ([.ref (G.2.2.1 85), .int a1, .int a2, .int a3].toArray) below meth c H locs 0 0 (MQ below (gQv G σ') ([.ref (G.2.2.1 85), .int a1, .int a2, .int a3].toArray) s 0 0 (gA G)) (F0 m 3 ls []) := by
    intro kL1 hKL1 nL1
    induction nL1 with
    | zero =>
      intro l1_4 σL1 H locs ls h
      cases h
    | succ nL1 ihL1 =>
      intro l1_4 σL1 H locs ls h hP hS hl
      rw [L1_X7_prepare] at h
      refine lv_iload hx hb dX7_prepare_3 (lv_at hl 0 rfl) ?_
      refine lv_aload_n hx hb dX7_prepare_5 rfl (lv_at hl 1 rfl) ?_
      refine g_get hx hb ht hown hE hP (by decide) gE_85 uX7 rfl 0 (by decide) m_284 rfl rfl dX7_prepare_6 ?_
      refine g_get hx hb ht hown hE hP (by decide) gE_1 uX0 rfl 2 (by decide) m_252 rfl rfl dX7_prepare_9 ?_
      refine g_get hx hb ht hown hE hP (by decide) gE_17 uX1 rfl 0 (by decide) m_122 rfl rfl dX7_prepare_12 ?_
      refine lv_icmp_ge (tgt := 59) hx hb dX7_prepare_15 (by decide) (fun c2 => ?_) (fun c2 => ?_)
      · have h := g_ift c2 h
        exact hKL1 _ _ _ _ _ h hP hS (lv_sub hl [0, 1, 2, 3, 4] rfl)
      · have h := g_iff c2 h
        refine lv_aload_n hx hb dX7_prepare_18 rfl (lv_at hl 1 rfl) ?_
        refine g_get hx hb ht hown hE hP (by decide) gE_85 uX7 rfl 1 (by decide) m_285 rfl rfl dX7_prepare_19 ?_
        refine lv_iload hx hb dX7_prepare_22 (lv_at hl 0 rfl) ?_
        refine lv_aload_n hx hb dX7_prepare_24 rfl (lv_at hl 1 rfl) ?_
        refine g_get hx hb ht hown hE hP (by decide) gE_85 uX7 rfl 0 (by decide) m_284 rfl rfl dX7_prepare_25 ?_
        refine g_get hx hb ht hown hE hP (by decide) gE_1 uX0 rfl 2 (by decide) m_252 rfl rfl dX7_prepare_28 ?_
        refine g_get hx hb ht hown hE hP (by decide) gE_17 uX1 rfl 7 (by decide) m_137 rfl rfl dX7_prepare_31 ?_
        refine lv_iload hx hb dX7_prepare_34 (lv_at hl 0 rfl) ?_
        obtain ⟨i3, h⟩ := g_ix h
        refine g_iald hx hb hE hP (by decide) rfl (by decide) i3 dX7_prepare_36 ?_
        refine lv_iload_n hx hb dX7_prepare_37 rfl (lv_at hl 4 rfl) ?_
        refine lv_icmp_gt (tgt := 51) hx hb dX7_prepare_38 (by decide) (fun c4 => ?_) (fun c4 => ?_)
        · have h := g_ift c4 h
          refine lv_iconst (v := (-1)) hx hb dX7_prepare_51 (by decide) ?_
          obtain ⟨i5, h⟩ := g_ix h
          refine g_iast hx hb hE hP hS (by decide) rfl (by decide) i5 dX7_prepare_52 (fun H locs σ6 eσ6 hP hS => ?_)
          have h := g_nm eσ6 h
          obtain ⟨x7, ex7⟩ : ∃ y : Int32, y = l1_4 + 1 := ⟨_, rfl⟩
          have h := g_nm ex7 h
          refine lv_iinc (v := x7) (lv' := [(4, .int x7), (0, .ref (G.2.2.1 85)), (1, .int a1), (2, .int a2), (3, .int a3)]) hx hb dX7_prepare_53 hl (k := 0) rfl (by rw [ex7]; rfl) (by decide) rfl (fun ls hl => ?_)
          refine lv_goto (tgt := 3) hx hb dX7_prepare_56 (by decide) ?_
          exact ihL1 _ _ _ _ _ h hP hS (lv_sub hl [0, 1, 2, 3, 4] rfl)
        · have h := g_iff c4 h
          refine lv_aload_n hx hb dX7_prepare_41 rfl (lv_at hl 1 rfl) ?_
          refine lv_iload hx hb dX7_prepare_42 (lv_at hl 0 rfl) ?_
          refine lv_iload_n hx hb dX7_prepare_44 rfl (lv_at hl 3 rfl) ?_
          obtain ⟨r9, σ8, hcr9, h⟩ := g_bd h
          refine g_callV (As := [.int l1_4, .int a2]) (n := 2) hx hb hml hown ht (c_X7_gainByFact l G _ _ _ hcr9) m_488 m_490 m_3 m_39 m_491 (by decide +kernel) (by decide) gE_85 rfl hE hP hS (fun _ h => h) (fun _ _ h => h) rfl hl.1 rfl (Nat.le_of_ble_eq_true rfl) dX7_prepare_45 ⟨by decide, by decide⟩ ⟨Nat.zero_le _, Nat.zero_le _⟩ (fun H locs hP hS => ?_)
          refine lv_goto (tgt := 52) hx hb dX7_prepare_48 (by decide) ?_
          obtain ⟨i10, h⟩ := g_ix h
          refine g_iast hx hb hE hP hS (by decide) rfl (by decide) i10 dX7_prepare_52 (fun H locs σ11 eσ11 hP hS => ?_)
          have h := g_nm eσ11 h
          obtain ⟨x12, ex12⟩ : ∃ y : Int32, y = l1_4 + 1 := ⟨_, rfl⟩
          have h := g_nm ex12 h
          refine lv_iinc (v := x12) (lv' := [(4, .int x12), (0, .ref (G.2.2.1 85)), (1, .int a1), (2, .int a2), (3, .int a3)]) hx hb dX7_prepare_53 hl (k := 0) rfl (by rw [ex12]; rfl) (by decide) rfl (fun ls hl => ?_)
          refine lv_goto (tgt := 3) hx hb dX7_prepare_56 (by decide) ?_
          exact ihL1 _ _ _ _ _ h hP hS (lv_sub hl [0, 1, 2, 3, 4] rfl)
  refine LPL1 _ (fun z13 σ14 H locs ls h hP hS hl => ?_) gFu _ _ _ _ _ h hP hS (lv_sub hl [0, 1, 2, 3, 4] rfl)
  refine lv_aload_n hx hb dX7_prepare_59 rfl (lv_at hl 1 rfl) ?_
  refine lv_iconst (v := 0) hx hb dX7_prepare_60 (by decide) ?_
  refine g_put hx hb ht hown hE hP hS (by decide) gE_85 uX7 tyX7_ok nmX7 rfl 6 (by decide) m_290 rfl rfl rfl rfl rfl (Nat.le_of_ble_eq_true rfl) rfl dX7_prepare_61 (fun H locs σ15 eσ15 hP hS => ?_)
  have h := g_nm eσ15 h
  refine lv_iload_n hx hb dX7_prepare_64 rfl (lv_at hl 2 rfl) ?_
  refine lv_istore (lv' := [(4, .int a1), (0, .ref (G.2.2.1 85)), (1, .int a1), (2, .int a2), (3, .int a3)]) hx hb dX7_prepare_65 hl (by decide) rfl (fun ls hl => ?_)
  have LPL16 : ∀ (kL16 : Int32 → gSt → gO), (∀ (l16_4 : Int32) (σL16 : gSt) (H : Heap) (locs : List Loc) (ls : Array Slot), kL16 l16_4 σL16 = some (r, σ') → gW G σL16 H → va_S (gA G) s.heap H locs → lv_has ls 5 [(4, .int l16_4), (0, .ref (G.2.2.1 85)), (1, .int a1), (2, .int a2), (3, .int a3)] → W p l e (gRm 3 74) s m ([.ref (G.2.2.1 85), .int a1, .int a2, .int a3].toArray) below meth c H locs 0 0 (MQ below (gQv G σ') ([.ref (G.2.2.1 85), .int a1, .int a2, .int a3].toArray) s 0 0 (gA G)) (F0 m 140 ls [])) → ∀ (nL16 : Nat) (l16_4 : Int32) (σL16 : gSt) (H : Heap) (locs : List Loc) (ls : Array Slot), L16_X7_prepare a1 a2 a3 nL16 l16_4 σL16 kL16 = some (r, σ') → gW G σL16 H → va_S (gA G) s.heap H locs → lv_has ls 5 [(4, .int l16_4), (0, .ref (G.2.2.1 85)), (1, .int a1), (2, .int a2), (3, .int a3)] → W p l e (gRm 3 74) s m ([.ref (G.2.2.1 85), .int a1, .int a2, .int a3].toArray) below meth c H locs 0 0 (MQ below (gQv G σ') ([.ref (G.2.2.1 85), .int a1, .int a2, .int a3].toArray) s 0 0 (gA G)) (F0 m 67 ls []) := by
    intro kL16 hKL16 nL16
    induction nL16 with
    | zero =>
      intro l16_4 σL16 H locs ls h
      cases h
    | succ nL16 ihL16 =>
      intro l16_4 σL16 H locs ls h hP hS hl
      rw [L16_X7_prepare] at h
      refine lv_aload_n hx hb dX7_prepare_67 rfl (lv_at hl 1 rfl) ?_
      refine g_get hx hb ht hown hE hP (by decide) gE_85 uX7 rfl 6 (by decide) m_290 rfl rfl dX7_prepare_68 ?_
      refine lv_bipush (v := 10) hx hb dX7_prepare_71 (by decide) ?_
      refine lv_icmp_ge (tgt := 140) hx hb dX7_prepare_73 (by decide) (fun c17 => ?_) (fun c17 => ?_)
      · have h := g_ift c17 h
        exact hKL16 _ _ _ _ _ h hP hS (lv_sub hl [0, 1, 2, 3, 4] rfl)
      · have h := g_iff c17 h
        refine lv_aload_n hx hb dX7_prepare_76 rfl (lv_at hl 1 rfl) ?_
        refine g_get hx hb ht hown hE hP (by decide) gE_85 uX7 rfl 0 (by decide) m_284 rfl rfl dX7_prepare_77 ?_
        refine g_get hx hb ht hown hE hP (by decide) gE_1 uX0 rfl 1 (by decide) m_250 rfl rfl dX7_prepare_80 ?_
        refine lv_iload hx hb dX7_prepare_83 (lv_at hl 0 rfl) ?_
        obtain ⟨r19, σ18, hcr19, h⟩ := g_bd h
        refine g_callV (As := [.int l16_4]) (n := 1) hx hb hml hown ht (c_X5_has l G _ _ hcr19) m_500 m_396 m_397 m_34 m_398 (by decide +kernel) (by decide) gE_11 rfl hE hP hS (fun _ h => h) (fun _ _ h => h) rfl hl.1 rfl (Nat.le_of_ble_eq_true rfl) dX7_prepare_85 ⟨by decide, by decide⟩ ⟨Nat.zero_le _, Nat.zero_le _⟩ (fun H locs hP hS => ?_)
        refine lv_if_eq (tgt := 140) hx hb dX7_prepare_88 (by decide) (fun c20 => ?_) (fun c20 => ?_)
        · have h := g_ift c20 h
          exact hKL16 _ _ _ _ _ h hP hS (lv_sub hl [0, 1, 2, 3, 4] rfl)
        · have h := g_iff c20 h
          refine lv_aload_n hx hb dX7_prepare_91 rfl (lv_at hl 1 rfl) ?_
          refine g_get hx hb ht hown hE hP (by decide) gE_85 uX7 rfl 2 (by decide) m_286 rfl rfl dX7_prepare_92 ?_
          refine lv_aload_n hx hb dX7_prepare_95 rfl (lv_at hl 1 rfl) ?_
          refine g_get hx hb ht hown hE hP (by decide) gE_85 uX7 rfl 6 (by decide) m_290 rfl rfl dX7_prepare_96 ?_
          refine lv_iload hx hb dX7_prepare_99 (lv_at hl 0 rfl) ?_
          obtain ⟨i21, h⟩ := g_ix h
          refine g_iast hx hb hE hP hS (by decide) rfl (by decide) i21 dX7_prepare_101 (fun H locs σ22 eσ22 hP hS => ?_)
          have h := g_nm eσ22 h
          refine lv_aload_n hx hb dX7_prepare_102 rfl (lv_at hl 1 rfl) ?_
          refine g_get hx hb ht hown hE hP (by decide) gE_85 uX7 rfl 3 (by decide) m_287 rfl rfl dX7_prepare_103 ?_
          refine lv_aload_n hx hb dX7_prepare_106 rfl (lv_at hl 1 rfl) ?_
          refine g_get hx hb ht hown hE hP (by decide) gE_85 uX7 rfl 6 (by decide) m_290 rfl rfl dX7_prepare_107 ?_
          refine lv_aload_n hx hb dX7_prepare_110 rfl (lv_at hl 1 rfl) ?_
          refine lv_iload hx hb dX7_prepare_111 (lv_at hl 0 rfl) ?_
          refine lv_iload_n hx hb dX7_prepare_113 rfl (lv_at hl 3 rfl) ?_
          obtain ⟨r24, σ23, hcr24, h⟩ := g_bd h
          refine g_callV (As := [.int l16_4, .int a2]) (n := 2) hx hb hml hown ht (c_X7_gainByBirth l G _ _ _ hcr24) m_501 m_503 m_4 m_39 m_504 (by decide +kernel) (by decide) gE_85 rfl hE hP hS (fun _ h => h) (fun _ _ h => h) rfl hl.1 rfl (Nat.le_of_ble_eq_true rfl) dX7_prepare_114 ⟨by decide, by decide⟩ ⟨Nat.zero_le _, Nat.zero_le _⟩ (fun H locs hP hS => ?_)
          obtain ⟨i25, h⟩ := g_ix h
          refine g_iast hx hb hE hP hS (by decide) rfl (by decide) i25 dX7_prepare_117 (fun H locs σ26 eσ26 hP hS => ?_)
          have h := g_nm eσ26 h
          refine lv_aload_n hx hb dX7_prepare_118 rfl (lv_at hl 1 rfl) ?_
          refine lv_dup hx hb dX7_prepare_119 rfl ?_
          refine g_get hx hb ht hown hE hP (by decide) gE_85 uX7 rfl 6 (by decide) m_290 rfl rfl dX7_prepare_120 ?_
          refine lv_iconst (v := 1) hx hb dX7_prepare_123 (by decide) ?_
          refine lv_iadd hx hb dX7_prepare_124 ?_
          refine g_put hx hb ht hown hE hP hS (by decide) gE_85 uX7 tyX7_ok nmX7 rfl 6 (by decide) m_290 rfl rfl rfl rfl rfl (Nat.le_of_ble_eq_true rfl) rfl dX7_prepare_125 (fun H locs σ27 eσ27 hP hS => ?_)
          have h := g_nm eσ27 h
          refine lv_aload_n hx hb dX7_prepare_128 rfl (lv_at hl 1 rfl) ?_
          refine lv_iload hx hb dX7_prepare_129 (lv_at hl 0 rfl) ?_
          refine lv_iload_n hx hb dX7_prepare_131 rfl (lv_at hl 3 rfl) ?_
          obtain ⟨r29, σ28, hcr29, h⟩ := g_bd h
          refine g_callV (As := [.int l16_4, .int a2]) (n := 2) hx hb hml hown ht (c_X7_leaderOf l G _ _ _ hcr29) m_509 m_511 m_5 m_39 m_512 (by decide +kernel) (by decide) gE_85 rfl hE hP hS (fun _ h => h) (fun _ _ h => h) rfl hl.1 rfl (Nat.le_of_ble_eq_true rfl) dX7_prepare_132 ⟨by decide, by decide⟩ ⟨Nat.zero_le _, Nat.zero_le _⟩ (fun H locs hP hS => ?_)
          refine lv_istore (lv' := [(4, .int r29), (0, .ref (G.2.2.1 85)), (1, .int a1), (2, .int a2), (3, .int a3)]) hx hb dX7_prepare_135 hl (by decide) rfl (fun ls hl => ?_)
          refine lv_goto (tgt := 67) hx hb dX7_prepare_137 (by decide) ?_
          exact ihL16 _ _ _ _ _ h hP hS (lv_sub hl [0, 1, 2, 3, 4] rfl)
  refine LPL16 _ (fun z30 σ31 H locs ls h hP hS hl => ?_) gFu _ _ _ _ _ h hP hS (lv_sub hl [0, 1, 2, 3, 4] rfl)
  exact g_vret (v := 0) (r := r) hx hb hr hlk hE hP hS h dX7_prepare_140

def L4_X7_latestGain (a1 a2 : Int32) : Nat → Int32 → Int32 → Int32 → gSt → (Int32 → Int32 → Int32 → gSt → gO) → gO
  | 0, _, _, _, _, _ => none
  | nL4 + 1, l4_5, l4_4, l4_3, σL4, kL4 =>
    if (σL4 17 0) ≤ l4_5 then (kL4 l4_5 l4_4 l4_3 σL4) else (gIx 24 l4_5 (gIx 10 a1 (if (σL4 19 l4_5.toNatClampNeg) = (σL4 87 a1.toNatClampNeg) then (if ((a2 >>> (l4_5 &&& 31)) &&& 1) = 0 then (gIx 24 l4_5 (if (σL4 86 l4_5.toNatClampNeg) = (-1) then (gNm (l4_5 + 1 : Int32) (fun x17 => L4_X7_latestGain a1 a2 nL4 x17 l4_4 l4_3 σL4 kL4)) else (gIx 24 l4_5 (if (σL4 86 l4_5.toNatClampNeg) < l4_3 then (gNm (l4_5 + 1 : Int32) (fun x20 => L4_X7_latestGain a1 a2 nL4 x20 l4_4 l4_3 σL4 kL4)) else (gIx 24 l4_5 (gNm ((σL4 86 l4_5.toNatClampNeg) : Int32) (fun x22 => gNm (l4_5 + 1 : Int32) (fun x23 => L4_X7_latestGain a1 a2 nL4 x23 l4_5 x22 σL4 kL4)))))))) else (gNm (l4_5 + 1 : Int32) (fun x13 => L4_X7_latestGain a1 a2 nL4 x13 l4_4 l4_3 σL4 kL4))) else (gNm (l4_5 + 1 : Int32) (fun x10 => L4_X7_latestGain a1 a2 nL4 x10 l4_4 l4_3 σL4 kL4)))))
def L28_X7_latestGain (a1 a2 : Int32) : Nat → Int32 → Int32 → Int32 → gSt → (Int32 → Int32 → Int32 → gSt → gO) → gO
  | 0, _, _, _, _, _ => none
  | nL28 + 1, l28_5, l28_4, l28_3, σL28, kL28 =>
    if (σL28 17 0) ≤ l28_5 then (kL28 l28_5 l28_4 l28_3 σL28) else (gIx 24 l28_5 (gIx 10 a1 (if (σL28 19 l28_5.toNatClampNeg) = (σL28 87 a1.toNatClampNeg) then (if ((a2 >>> (l28_5 &&& 31)) &&& 1) = 0 then (gIx 24 l28_5 (if (σL28 86 l28_5.toNatClampNeg) = (-1) then (gNm (l28_5 + 1 : Int32) (fun x41 => L28_X7_latestGain a1 a2 nL28 x41 l28_4 l28_3 σL28 kL28)) else (gIx 24 l28_5 (if (σL28 86 l28_5.toNatClampNeg) < l28_3 then (gNm (l28_5 + 1 : Int32) (fun x44 => L28_X7_latestGain a1 a2 nL28 x44 l28_4 l28_3 σL28 kL28)) else (gIx 24 l28_5 (gNm ((σL28 86 l28_5.toNatClampNeg) : Int32) (fun x46 => gNm (l28_5 + 1 : Int32) (fun x47 => L28_X7_latestGain a1 a2 nL28 x47 l28_5 x46 σL28 kL28)))))))) else (gNm (l28_5 + 1 : Int32) (fun x37 => L28_X7_latestGain a1 a2 nL28 x37 l28_4 l28_3 σL28 kL28))) else (gNm (l28_5 + 1 : Int32) (fun x34 => L28_X7_latestGain a1 a2 nL28 x34 l28_4 l28_3 σL28 kL28)))))
def M_X7_latestGain (a1 a2 : Int32) (σ : gSt) : gO :=
  gIx 10 a1 (gNm ((σ 88 a1.toNatClampNeg) : Int32) (fun x2 => if x2 = (-1) then (L28_X7_latestGain a1 a2 gFu 0 (-2) x2 σ (fun z48 z49 z50 σ51 => some (z49, σ51))) else (L4_X7_latestGain a1 a2 gFu 0 (-1) x2 σ (fun z24 z25 z26 σ27 => some (z25, σ27)))))
set_option maxHeartbeats 4000000 in
set_option maxRecDepth 100000 in
theorem c_X7_latestGain (l : Launch) (G : gPar) (a1 a2 : Int32) (σ : gSt) {r : Int32} {σ' : gSt} (h : M_X7_latestGain a1 a2 σ = some (r, σ')) : gC l G yX7_latestGain cX7_latestGain 7 (some .int) 0 0 [.ref (G.2.2.1 85), .int a1, .int a2] σ r σ' := by
  refine gC_of (by decide) (Nat.le_of_ble_eq_true rfl) ?_
  intro p e s m below meth c hx hb hr ht hown hlk hml hE hP ls hl
  have hS : va_S (gA G) s.heap s.heap [] := va_S.rf
  have hl : lv_has ls 7 [(0, .ref (G.2.2.1 85)), (1, .int a1), (2, .int a2)] := hl
  unfold M_X7_latestGain at h
  refine lv_aload_n hx hb dX7_latestGain_0 rfl (lv_at hl 0 rfl) ?_
  refine g_get hx hb ht hown hE hP (by decide) gE_85 uX7 rfl 3 (by decide) m_287 rfl rfl dX7_latestGain_1 ?_
  refine lv_iload_n hx hb dX7_latestGain_4 rfl (lv_at hl 1 rfl) ?_
  obtain ⟨i1, h⟩ := g_ix h
  refine g_iald hx hb hE hP (by decide) rfl (by decide) i1 dX7_latestGain_5 ?_
  refine lv_topi (fun x2 ex2 => ?_)
  have h := g_nm ex2 h
  refine lv_istore_n (lv' := [(3, .int x2), (0, .ref (G.2.2.1 85)), (1, .int a1), (2, .int a2)]) hx hb dX7_latestGain_6 rfl hl (by decide) rfl (fun ls hl => ?_)
  refine lv_iload_n hx hb dX7_latestGain_7 rfl (lv_at hl 0 rfl) ?_
  refine lv_iconst (v := (-1)) hx hb dX7_latestGain_8 (by decide) ?_
  refine lv_icmp_ne (tgt := 17) hx hb dX7_latestGain_9 (by decide) (fun c3 => ?_) (fun c3 => ?_)
  · have h := g_iff c3 h
    refine lv_iconst (v := (-1)) hx hb dX7_latestGain_17 (by decide) ?_
    refine lv_istore (lv' := [(4, .int (-1)), (3, .int x2), (0, .ref (G.2.2.1 85)), (1, .int a1), (2, .int a2)]) hx hb dX7_latestGain_18 hl (by decide) rfl (fun ls hl => ?_)
    refine lv_iconst (v := 0) hx hb dX7_latestGain_20 (by decide) ?_
    refine lv_istore (lv' := [(5, .int 0), (4, .int (-1)), (3, .int x2), (0, .ref (G.2.2.1 85)), (1, .int a1), (2, .int a2)]) hx hb dX7_latestGain_21 hl (by decide) rfl (fun ls hl => ?_)
    have LPL4 : ∀ (kL4 : Int32 → Int32 → Int32 → gSt → gO), (∀ (l4_5 l4_4 l4_3 : Int32) (σL4 : gSt) (H : Heap) (locs : List Loc) (ls : Array Slot), kL4 l4_5 l4_4 l4_3 σL4 = some (r, σ') → gW G σL4 H → va_S (gA G) s.heap H locs → lv_has ls 7 [(5, .int l4_5), (4, .int l4_4), (3, .int l4_3), (0, .ref (G.2.2.1 85)), (1, .int a1), (2, .int a2)] → W p l e (gRm 0 0) s m ([.ref (G.2.2.1 85), .int a1, .int a2].toArray) below meth c H locs 0 0 (MQ below (gQ G r σ') ([.ref (G.2.2.1 85), .int a1, .int a2].toArray) s 0 0 (gA G)) (F0 m 121 ls [])) → ∀ (nL4 : Nat) (l4_5 l4_4 l4_3 : Int32) (σL4 : gSt) (H : Heap) (locs : List Loc) (ls : Array Slot), L4_X7_latestGain a1 a2 nL4 l4_5 l4_4 l4_3 σL4 kL4 = some (r, σ') → gW G σL4 H → va_S (gA G) s.heap H locs → lv_has ls 7 [(5, .int l4_5), (4, .int l4_4), (3, .int l4_3), (0, .ref (G.2.2.1 85)), (1, .int a1), (2, .int a2)] → W p l e (gRm 0 0) s m ([.ref (G.2.2.1 85), .int a1, .int a2].toArray) below meth c H locs 0 0 (MQ below (gQ G r σ') ([.ref (G.2.2.1 85), .int a1, .int a2].toArray) s 0 0 (gA G)) (F0 m 23 ls []) := by
      intro kL4 hKL4 nL4
      induction nL4 with
      | zero =>
        intro l4_5 l4_4 l4_3 σL4 H locs ls h
        cases h
      | succ nL4 ihL4 =>
        intro l4_5 l4_4 l4_3 σL4 H locs ls h hP hS hl
        rw [L4_X7_latestGain] at h
        refine lv_iload hx hb dX7_latestGain_23 (lv_at hl 0 rfl) ?_
        refine lv_aload_n hx hb dX7_latestGain_25 rfl (lv_at hl 3 rfl) ?_
        refine g_get hx hb ht hown hE hP (by decide) gE_85 uX7 rfl 0 (by decide) m_284 rfl rfl dX7_latestGain_26 ?_
        refine g_get hx hb ht hown hE hP (by decide) gE_1 uX0 rfl 2 (by decide) m_252 rfl rfl dX7_latestGain_29 ?_
        refine g_get hx hb ht hown hE hP (by decide) gE_17 uX1 rfl 0 (by decide) m_122 rfl rfl dX7_latestGain_32 ?_
        refine lv_icmp_ge (tgt := 121) hx hb dX7_latestGain_35 (by decide) (fun c5 => ?_) (fun c5 => ?_)
        · have h := g_ift c5 h
          exact hKL4 _ _ _ _ _ _ _ h hP hS (lv_sub hl [0, 1, 2, 3, 4, 5] rfl)
        · have h := g_iff c5 h
          refine lv_aload_n hx hb dX7_latestGain_38 rfl (lv_at hl 3 rfl) ?_
          refine g_get hx hb ht hown hE hP (by decide) gE_85 uX7 rfl 0 (by decide) m_284 rfl rfl dX7_latestGain_39 ?_
          refine g_get hx hb ht hown hE hP (by decide) gE_1 uX0 rfl 2 (by decide) m_252 rfl rfl dX7_latestGain_42 ?_
          refine g_get hx hb ht hown hE hP (by decide) gE_17 uX1 rfl 2 (by decide) m_127 rfl rfl dX7_latestGain_45 ?_
          refine lv_iload hx hb dX7_latestGain_48 (lv_at hl 0 rfl) ?_
          obtain ⟨i6, h⟩ := g_ix h
          refine g_iald hx hb hE hP (by decide) rfl (by decide) i6 dX7_latestGain_50 ?_
          refine lv_aload_n hx hb dX7_latestGain_51 rfl (lv_at hl 3 rfl) ?_
          refine g_get hx hb ht hown hE hP (by decide) gE_85 uX7 rfl 2 (by decide) m_286 rfl rfl dX7_latestGain_52 ?_
          refine lv_iload_n hx hb dX7_latestGain_55 rfl (lv_at hl 4 rfl) ?_
          obtain ⟨i7, h⟩ := g_ix h
          refine g_iald hx hb hE hP (by decide) rfl (by decide) i7 dX7_latestGain_56 ?_
          refine lv_icmp_ne (tgt := 73) hx hb dX7_latestGain_57 (by decide) (fun c8 => ?_) (fun c8 => ?_)
          · have h := g_iff c8 h
            refine lv_iconst (v := 0) hx hb dX7_latestGain_73 (by decide) ?_
            refine lv_istore (lv' := [(6, .int 0), (5, .int l4_5), (4, .int l4_4), (3, .int l4_3), (0, .ref (G.2.2.1 85)), (1, .int a1), (2, .int a2)]) hx hb dX7_latestGain_74 hl (by decide) rfl (fun ls hl => ?_)
            refine lv_iload hx hb dX7_latestGain_76 (lv_at hl 0 rfl) ?_
            refine lv_if_eq (tgt := 115) hx hb dX7_latestGain_78 (by decide) (fun _ => ?_) (fun c9 => absurd (by decide) c9)
            obtain ⟨x10, ex10⟩ : ∃ y : Int32, y = l4_5 + 1 := ⟨_, rfl⟩
            have h := g_nm ex10 h
            refine lv_iinc (v := x10) (lv' := [(5, .int x10), (6, .int 0), (4, .int l4_4), (3, .int l4_3), (0, .ref (G.2.2.1 85)), (1, .int a1), (2, .int a2)]) hx hb dX7_latestGain_115 hl (k := 1) rfl (by rw [ex10]; rfl) (by decide) rfl (fun ls hl => ?_)
            refine lv_goto (tgt := 23) hx hb dX7_latestGain_118 (by decide) ?_
            exact ihL4 _ _ _ _ _ _ _ h hP hS (lv_sub hl [0, 2, 3, 4, 5, 6] rfl)
          · have h := g_ift c8 h
            refine lv_iload_n hx hb dX7_latestGain_60 rfl (lv_at hl 5 rfl) ?_
            refine lv_iload hx hb dX7_latestGain_61 (lv_at hl 0 rfl) ?_
            refine lv_ishr hx hb dX7_latestGain_63 ?_
            refine lv_iconst (v := 1) hx hb dX7_latestGain_64 (by decide) ?_
            refine lv_iand hx hb dX7_latestGain_65 ?_
            refine lv_if_ne (tgt := 73) hx hb dX7_latestGain_66 (by decide) (fun c11 => ?_) (fun c11 => ?_)
            · have h := g_iff c11 h
              refine lv_iconst (v := 0) hx hb dX7_latestGain_73 (by decide) ?_
              refine lv_istore (lv' := [(6, .int 0), (5, .int l4_5), (4, .int l4_4), (3, .int l4_3), (0, .ref (G.2.2.1 85)), (1, .int a1), (2, .int a2)]) hx hb dX7_latestGain_74 hl (by decide) rfl (fun ls hl => ?_)
              refine lv_iload hx hb dX7_latestGain_76 (lv_at hl 0 rfl) ?_
              refine lv_if_eq (tgt := 115) hx hb dX7_latestGain_78 (by decide) (fun _ => ?_) (fun c12 => absurd (by decide) c12)
              obtain ⟨x13, ex13⟩ : ∃ y : Int32, y = l4_5 + 1 := ⟨_, rfl⟩
              have h := g_nm ex13 h
              refine lv_iinc (v := x13) (lv' := [(5, .int x13), (6, .int 0), (4, .int l4_4), (3, .int l4_3), (0, .ref (G.2.2.1 85)), (1, .int a1), (2, .int a2)]) hx hb dX7_latestGain_115 hl (k := 1) rfl (by rw [ex13]; rfl) (by decide) rfl (fun ls hl => ?_)
              refine lv_goto (tgt := 23) hx hb dX7_latestGain_118 (by decide) ?_
              exact ihL4 _ _ _ _ _ _ _ h hP hS (lv_sub hl [0, 2, 3, 4, 5, 6] rfl)
            · have h := g_ift c11 h
              refine lv_iconst (v := 1) hx hb dX7_latestGain_69 (by decide) ?_
              refine lv_goto (tgt := 74) hx hb dX7_latestGain_70 (by decide) ?_
              refine lv_istore (lv' := [(6, .int 1), (5, .int l4_5), (4, .int l4_4), (3, .int l4_3), (0, .ref (G.2.2.1 85)), (1, .int a1), (2, .int a2)]) hx hb dX7_latestGain_74 hl (by decide) rfl (fun ls hl => ?_)
              refine lv_iload hx hb dX7_latestGain_76 (lv_at hl 0 rfl) ?_
              refine lv_if_eq (tgt := 115) hx hb dX7_latestGain_78 (by decide) (fun c14 => absurd c14 (by decide)) (fun _ => ?_)
              refine lv_aload_n hx hb dX7_latestGain_81 rfl (lv_at hl 4 rfl) ?_
              refine g_get hx hb ht hown hE hP (by decide) gE_85 uX7 rfl 1 (by decide) m_285 rfl rfl dX7_latestGain_82 ?_
              refine lv_iload hx hb dX7_latestGain_85 (lv_at hl 1 rfl) ?_
              obtain ⟨i15, h⟩ := g_ix h
              refine g_iald hx hb hE hP (by decide) rfl (by decide) i15 dX7_latestGain_87 ?_
              refine lv_iconst (v := (-1)) hx hb dX7_latestGain_88 (by decide) ?_
              refine lv_icmp_eq (tgt := 115) hx hb dX7_latestGain_89 (by decide) (fun c16 => ?_) (fun c16 => ?_)
              · have h := g_ift c16 h
                obtain ⟨x17, ex17⟩ : ∃ y : Int32, y = l4_5 + 1 := ⟨_, rfl⟩
                have h := g_nm ex17 h
                refine lv_iinc (v := x17) (lv' := [(5, .int x17), (6, .int 1), (4, .int l4_4), (3, .int l4_3), (0, .ref (G.2.2.1 85)), (1, .int a1), (2, .int a2)]) hx hb dX7_latestGain_115 hl (k := 1) rfl (by rw [ex17]; rfl) (by decide) rfl (fun ls hl => ?_)
                refine lv_goto (tgt := 23) hx hb dX7_latestGain_118 (by decide) ?_
                exact ihL4 _ _ _ _ _ _ _ h hP hS (lv_sub hl [0, 2, 3, 4, 5, 6] rfl)
              · have h := g_iff c16 h
                refine lv_aload_n hx hb dX7_latestGain_92 rfl (lv_at hl 4 rfl) ?_
                refine g_get hx hb ht hown hE hP (by decide) gE_85 uX7 rfl 1 (by decide) m_285 rfl rfl dX7_latestGain_93 ?_
                refine lv_iload hx hb dX7_latestGain_96 (lv_at hl 1 rfl) ?_
                obtain ⟨i18, h⟩ := g_ix h
                refine g_iald hx hb hE hP (by decide) rfl (by decide) i18 dX7_latestGain_98 ?_
                refine lv_iload_n hx hb dX7_latestGain_99 rfl (lv_at hl 3 rfl) ?_
                refine lv_icmp_lt (tgt := 115) hx hb dX7_latestGain_100 (by decide) (fun c19 => ?_) (fun c19 => ?_)
                · have h := g_ift c19 h
                  obtain ⟨x20, ex20⟩ : ∃ y : Int32, y = l4_5 + 1 := ⟨_, rfl⟩
                  have h := g_nm ex20 h
                  refine lv_iinc (v := x20) (lv' := [(5, .int x20), (6, .int 1), (4, .int l4_4), (3, .int l4_3), (0, .ref (G.2.2.1 85)), (1, .int a1), (2, .int a2)]) hx hb dX7_latestGain_115 hl (k := 1) rfl (by rw [ex20]; rfl) (by decide) rfl (fun ls hl => ?_)
                  refine lv_goto (tgt := 23) hx hb dX7_latestGain_118 (by decide) ?_
                  exact ihL4 _ _ _ _ _ _ _ h hP hS (lv_sub hl [0, 2, 3, 4, 5, 6] rfl)
                · have h := g_iff c19 h
                  refine lv_iload hx hb dX7_latestGain_103 (lv_at hl 1 rfl) ?_
                  refine lv_istore (lv' := [(4, .int l4_5), (6, .int 1), (5, .int l4_5), (3, .int l4_3), (0, .ref (G.2.2.1 85)), (1, .int a1), (2, .int a2)]) hx hb dX7_latestGain_105 hl (by decide) rfl (fun ls hl => ?_)
                  refine lv_aload_n hx hb dX7_latestGain_107 rfl (lv_at hl 4 rfl) ?_
                  refine g_get hx hb ht hown hE hP (by decide) gE_85 uX7 rfl 1 (by decide) m_285 rfl rfl dX7_latestGain_108 ?_
                  refine lv_iload hx hb dX7_latestGain_111 (lv_at hl 2 rfl) ?_
                  obtain ⟨i21, h⟩ := g_ix h
                  refine g_iald hx hb hE hP (by decide) rfl (by decide) i21 dX7_latestGain_113 ?_
                  refine lv_topi (fun x22 ex22 => ?_)
                  have h := g_nm ex22 h
                  refine lv_istore_n (lv' := [(3, .int x22), (4, .int l4_5), (6, .int 1), (5, .int l4_5), (0, .ref (G.2.2.1 85)), (1, .int a1), (2, .int a2)]) hx hb dX7_latestGain_114 rfl hl (by decide) rfl (fun ls hl => ?_)
                  obtain ⟨x23, ex23⟩ : ∃ y : Int32, y = l4_5 + 1 := ⟨_, rfl⟩
                  have h := g_nm ex23 h
                  refine lv_iinc (v := x23) (lv' := [(5, .int x23), (3, .int x22), (4, .int l4_5), (6, .int 1), (0, .ref (G.2.2.1 85)), (1, .int a1), (2, .int a2)]) hx hb dX7_latestGain_115 hl (k := 3) rfl (by rw [ex23]; rfl) (by decide) rfl (fun ls hl => ?_)
                  refine lv_goto (tgt := 23) hx hb dX7_latestGain_118 (by decide) ?_
                  exact ihL4 _ _ _ _ _ _ _ h hP hS (lv_sub hl [0, 2, 1, 4, 5, 6] rfl)
    refine LPL4 _ (fun z24 z25 z26 σ27 H locs ls h hP hS hl => ?_) gFu _ _ _ _ _ _ _ h hP hS (lv_sub hl [0, 1, 2, 3, 4, 5] rfl)
    refine lv_iload hx hb dX7_latestGain_121 (lv_at hl 1 rfl) ?_
    exact g_iret hx hb hr hlk hE hP hS h dX7_latestGain_123
  · have h := g_ift c3 h
    refine lv_bipush (v := (-2)) hx hb dX7_latestGain_12 (by decide) ?_
    refine lv_goto (tgt := 18) hx hb dX7_latestGain_14 (by decide) ?_
    refine lv_istore (lv' := [(4, .int (-2)), (3, .int x2), (0, .ref (G.2.2.1 85)), (1, .int a1), (2, .int a2)]) hx hb dX7_latestGain_18 hl (by decide) rfl (fun ls hl => ?_)
    refine lv_iconst (v := 0) hx hb dX7_latestGain_20 (by decide) ?_
    refine lv_istore (lv' := [(5, .int 0), (4, .int (-2)), (3, .int x2), (0, .ref (G.2.2.1 85)), (1, .int a1), (2, .int a2)]) hx hb dX7_latestGain_21 hl (by decide) rfl (fun ls hl => ?_)
    have LPL28 : ∀ (kL28 : Int32 → Int32 → Int32 → gSt → gO), (∀ (l28_5 l28_4 l28_3 : Int32) (σL28 : gSt) (H : Heap) (locs : List Loc) (ls : Array Slot), kL28 l28_5 l28_4 l28_3 σL28 = some (r, σ') → gW G σL28 H → va_S (gA G) s.heap H locs → lv_has ls 7 [(5, .int l28_5), (4, .int l28_4), (3, .int l28_3), (0, .ref (G.2.2.1 85)), (1, .int a1), (2, .int a2)] → W p l e (gRm 0 0) s m ([.ref (G.2.2.1 85), .int a1, .int a2].toArray) below meth c H locs 0 0 (MQ below (gQ G r σ') ([.ref (G.2.2.1 85), .int a1, .int a2].toArray) s 0 0 (gA G)) (F0 m 121 ls [])) → ∀ (nL28 : Nat) (l28_5 l28_4 l28_3 : Int32) (σL28 : gSt) (H : Heap) (locs : List Loc) (ls : Array Slot), L28_X7_latestGain a1 a2 nL28 l28_5 l28_4 l28_3 σL28 kL28 = some (r, σ') → gW G σL28 H → va_S (gA G) s.heap H locs → lv_has ls 7 [(5, .int l28_5), (4, .int l28_4), (3, .int l28_3), (0, .ref (G.2.2.1 85)), (1, .int a1), (2, .int a2)] → W p l e (gRm 0 0) s m ([.ref (G.2.2.1 85), .int a1, .int a2].toArray) below meth c H locs 0 0 (MQ below (gQ G r σ') ([.ref (G.2.2.1 85), .int a1, .int a2].toArray) s 0 0 (gA G)) (F0 m 23 ls []) := by
      intro kL28 hKL28 nL28
      induction nL28 with
      | zero =>
        intro l28_5 l28_4 l28_3 σL28 H locs ls h
        cases h
      | succ nL28 ihL28 =>
        intro l28_5 l28_4 l28_3 σL28 H locs ls h hP hS hl
        rw [L28_X7_latestGain] at h
        refine lv_iload hx hb dX7_latestGain_23 (lv_at hl 0 rfl) ?_
        refine lv_aload_n hx hb dX7_latestGain_25 rfl (lv_at hl 3 rfl) ?_
        refine g_get hx hb ht hown hE hP (by decide) gE_85 uX7 rfl 0 (by decide) m_284 rfl rfl dX7_latestGain_26 ?_
        refine g_get hx hb ht hown hE hP (by decide) gE_1 uX0 rfl 2 (by decide) m_252 rfl rfl dX7_latestGain_29 ?_
        refine g_get hx hb ht hown hE hP (by decide) gE_17 uX1 rfl 0 (by decide) m_122 rfl rfl dX7_latestGain_32 ?_
        refine lv_icmp_ge (tgt := 121) hx hb dX7_latestGain_35 (by decide) (fun c29 => ?_) (fun c29 => ?_)
        · have h := g_ift c29 h
          exact hKL28 _ _ _ _ _ _ _ h hP hS (lv_sub hl [0, 1, 2, 3, 4, 5] rfl)
        · have h := g_iff c29 h
          refine lv_aload_n hx hb dX7_latestGain_38 rfl (lv_at hl 3 rfl) ?_
          refine g_get hx hb ht hown hE hP (by decide) gE_85 uX7 rfl 0 (by decide) m_284 rfl rfl dX7_latestGain_39 ?_
          refine g_get hx hb ht hown hE hP (by decide) gE_1 uX0 rfl 2 (by decide) m_252 rfl rfl dX7_latestGain_42 ?_
          refine g_get hx hb ht hown hE hP (by decide) gE_17 uX1 rfl 2 (by decide) m_127 rfl rfl dX7_latestGain_45 ?_
          refine lv_iload hx hb dX7_latestGain_48 (lv_at hl 0 rfl) ?_
          obtain ⟨i30, h⟩ := g_ix h
          refine g_iald hx hb hE hP (by decide) rfl (by decide) i30 dX7_latestGain_50 ?_
          refine lv_aload_n hx hb dX7_latestGain_51 rfl (lv_at hl 3 rfl) ?_
          refine g_get hx hb ht hown hE hP (by decide) gE_85 uX7 rfl 2 (by decide) m_286 rfl rfl dX7_latestGain_52 ?_
          refine lv_iload_n hx hb dX7_latestGain_55 rfl (lv_at hl 4 rfl) ?_
          obtain ⟨i31, h⟩ := g_ix h
          refine g_iald hx hb hE hP (by decide) rfl (by decide) i31 dX7_latestGain_56 ?_
          refine lv_icmp_ne (tgt := 73) hx hb dX7_latestGain_57 (by decide) (fun c32 => ?_) (fun c32 => ?_)
          · have h := g_iff c32 h
            refine lv_iconst (v := 0) hx hb dX7_latestGain_73 (by decide) ?_
            refine lv_istore (lv' := [(6, .int 0), (5, .int l28_5), (4, .int l28_4), (3, .int l28_3), (0, .ref (G.2.2.1 85)), (1, .int a1), (2, .int a2)]) hx hb dX7_latestGain_74 hl (by decide) rfl (fun ls hl => ?_)
            refine lv_iload hx hb dX7_latestGain_76 (lv_at hl 0 rfl) ?_
            refine lv_if_eq (tgt := 115) hx hb dX7_latestGain_78 (by decide) (fun _ => ?_) (fun c33 => absurd (by decide) c33)
            obtain ⟨x34, ex34⟩ : ∃ y : Int32, y = l28_5 + 1 := ⟨_, rfl⟩
            have h := g_nm ex34 h
            refine lv_iinc (v := x34) (lv' := [(5, .int x34), (6, .int 0), (4, .int l28_4), (3, .int l28_3), (0, .ref (G.2.2.1 85)), (1, .int a1), (2, .int a2)]) hx hb dX7_latestGain_115 hl (k := 1) rfl (by rw [ex34]; rfl) (by decide) rfl (fun ls hl => ?_)
            refine lv_goto (tgt := 23) hx hb dX7_latestGain_118 (by decide) ?_
            exact ihL28 _ _ _ _ _ _ _ h hP hS (lv_sub hl [0, 2, 3, 4, 5, 6] rfl)
          · have h := g_ift c32 h
            refine lv_iload_n hx hb dX7_latestGain_60 rfl (lv_at hl 5 rfl) ?_
            refine lv_iload hx hb dX7_latestGain_61 (lv_at hl 0 rfl) ?_
            refine lv_ishr hx hb dX7_latestGain_63 ?_
            refine lv_iconst (v := 1) hx hb dX7_latestGain_64 (by decide) ?_
            refine lv_iand hx hb dX7_latestGain_65 ?_
            refine lv_if_ne (tgt := 73) hx hb dX7_latestGain_66 (by decide) (fun c35 => ?_) (fun c35 => ?_)
            · have h := g_iff c35 h
              refine lv_iconst (v := 0) hx hb dX7_latestGain_73 (by decide) ?_
              refine lv_istore (lv' := [(6, .int 0), (5, .int l28_5), (4, .int l28_4), (3, .int l28_3), (0, .ref (G.2.2.1 85)), (1, .int a1), (2, .int a2)]) hx hb dX7_latestGain_74 hl (by decide) rfl (fun ls hl => ?_)
              refine lv_iload hx hb dX7_latestGain_76 (lv_at hl 0 rfl) ?_
              refine lv_if_eq (tgt := 115) hx hb dX7_latestGain_78 (by decide) (fun _ => ?_) (fun c36 => absurd (by decide) c36)
              obtain ⟨x37, ex37⟩ : ∃ y : Int32, y = l28_5 + 1 := ⟨_, rfl⟩
              have h := g_nm ex37 h
              refine lv_iinc (v := x37) (lv' := [(5, .int x37), (6, .int 0), (4, .int l28_4), (3, .int l28_3), (0, .ref (G.2.2.1 85)), (1, .int a1), (2, .int a2)]) hx hb dX7_latestGain_115 hl (k := 1) rfl (by rw [ex37]; rfl) (by decide) rfl (fun ls hl => ?_)
              refine lv_goto (tgt := 23) hx hb dX7_latestGain_118 (by decide) ?_
              exact ihL28 _ _ _ _ _ _ _ h hP hS (lv_sub hl [0, 2, 3, 4, 5, 6] rfl)
            · have h := g_ift c35 h
              refine lv_iconst (v := 1) hx hb dX7_latestGain_69 (by decide) ?_
              refine lv_goto (tgt := 74) hx hb dX7_latestGain_70 (by decide) ?_
              refine lv_istore (lv' := [(6, .int 1), (5, .int l28_5), (4, .int l28_4), (3, .int l28_3), (0, .ref (G.2.2.1 85)), (1, .int a1), (2, .int a2)]) hx hb dX7_latestGain_74 hl (by decide) rfl (fun ls hl => ?_)
              refine lv_iload hx hb dX7_latestGain_76 (lv_at hl 0 rfl) ?_
              refine lv_if_eq (tgt := 115) hx hb dX7_latestGain_78 (by decide) (fun c38 => absurd c38 (by decide)) (fun _ => ?_)
              refine lv_aload_n hx hb dX7_latestGain_81 rfl (lv_at hl 4 rfl) ?_
              refine g_get hx hb ht hown hE hP (by decide) gE_85 uX7 rfl 1 (by decide) m_285 rfl rfl dX7_latestGain_82 ?_
              refine lv_iload hx hb dX7_latestGain_85 (lv_at hl 1 rfl) ?_
              obtain ⟨i39, h⟩ := g_ix h
              refine g_iald hx hb hE hP (by decide) rfl (by decide) i39 dX7_latestGain_87 ?_
              refine lv_iconst (v := (-1)) hx hb dX7_latestGain_88 (by decide) ?_
              refine lv_icmp_eq (tgt := 115) hx hb dX7_latestGain_89 (by decide) (fun c40 => ?_) (fun c40 => ?_)
              · have h := g_ift c40 h
                obtain ⟨x41, ex41⟩ : ∃ y : Int32, y = l28_5 + 1 := ⟨_, rfl⟩
                have h := g_nm ex41 h
                refine lv_iinc (v := x41) (lv' := [(5, .int x41), (6, .int 1), (4, .int l28_4), (3, .int l28_3), (0, .ref (G.2.2.1 85)), (1, .int a1), (2, .int a2)]) hx hb dX7_latestGain_115 hl (k := 1) rfl (by rw [ex41]; rfl) (by decide) rfl (fun ls hl => ?_)
                refine lv_goto (tgt := 23) hx hb dX7_latestGain_118 (by decide) ?_
                exact ihL28 _ _ _ _ _ _ _ h hP hS (lv_sub hl [0, 2, 3, 4, 5, 6] rfl)
              · have h := g_iff c40 h
                refine lv_aload_n hx hb dX7_latestGain_92 rfl (lv_at hl 4 rfl) ?_
                refine g_get hx hb ht hown hE hP (by decide) gE_85 uX7 rfl 1 (by decide) m_285 rfl rfl dX7_latestGain_93 ?_
                refine lv_iload hx hb dX7_latestGain_96 (lv_at hl 1 rfl) ?_
                obtain ⟨i42, h⟩ := g_ix h
                refine g_iald hx hb hE hP (by decide) rfl (by decide) i42 dX7_latestGain_98 ?_
                refine lv_iload_n hx hb dX7_latestGain_99 rfl (lv_at hl 3 rfl) ?_
                refine lv_icmp_lt (tgt := 115) hx hb dX7_latestGain_100 (by decide) (fun c43 => ?_) (fun c43 => ?_)
                · have h := g_ift c43 h
                  obtain ⟨x44, ex44⟩ : ∃ y : Int32, y = l28_5 + 1 := ⟨_, rfl⟩
                  have h := g_nm ex44 h
                  refine lv_iinc (v := x44) (lv' := [(5, .int x44), (6, .int 1), (4, .int l28_4), (3, .int l28_3), (0, .ref (G.2.2.1 85)), (1, .int a1), (2, .int a2)]) hx hb dX7_latestGain_115 hl (k := 1) rfl (by rw [ex44]; rfl) (by decide) rfl (fun ls hl => ?_)
                  refine lv_goto (tgt := 23) hx hb dX7_latestGain_118 (by decide) ?_
                  exact ihL28 _ _ _ _ _ _ _ h hP hS (lv_sub hl [0, 2, 3, 4, 5, 6] rfl)
                · have h := g_iff c43 h
                  refine lv_iload hx hb dX7_latestGain_103 (lv_at hl 1 rfl) ?_
                  refine lv_istore (lv' := [(4, .int l28_5), (6, .int 1), (5, .int l28_5), (3, .int l28_3), (0, .ref (G.2.2.1 85)), (1, .int a1), (2, .int a2)]) hx hb dX7_latestGain_105 hl (by decide) rfl (fun ls hl => ?_)
                  refine lv_aload_n hx hb dX7_latestGain_107 rfl (lv_at hl 4 rfl) ?_
                  refine g_get hx hb ht hown hE hP (by decide) gE_85 uX7 rfl 1 (by decide) m_285 rfl rfl dX7_latestGain_108 ?_
                  refine lv_iload hx hb dX7_latestGain_111 (lv_at hl 2 rfl) ?_
                  obtain ⟨i45, h⟩ := g_ix h
                  refine g_iald hx hb hE hP (by decide) rfl (by decide) i45 dX7_latestGain_113 ?_
                  refine lv_topi (fun x46 ex46 => ?_)
                  have h := g_nm ex46 h
                  refine lv_istore_n (lv' := [(3, .int x46), (4, .int l28_5), (6, .int 1), (5, .int l28_5), (0, .ref (G.2.2.1 85)), (1, .int a1), (2, .int a2)]) hx hb dX7_latestGain_114 rfl hl (by decide) rfl (fun ls hl => ?_)
                  obtain ⟨x47, ex47⟩ : ∃ y : Int32, y = l28_5 + 1 := ⟨_, rfl⟩
                  have h := g_nm ex47 h
                  refine lv_iinc (v := x47) (lv' := [(5, .int x47), (3, .int x46), (4, .int l28_5), (6, .int 1), (0, .ref (G.2.2.1 85)), (1, .int a1), (2, .int a2)]) hx hb dX7_latestGain_115 hl (k := 3) rfl (by rw [ex47]; rfl) (by decide) rfl (fun ls hl => ?_)
                  refine lv_goto (tgt := 23) hx hb dX7_latestGain_118 (by decide) ?_
                  exact ihL28 _ _ _ _ _ _ _ h hP hS (lv_sub hl [0, 2, 1, 4, 5, 6] rfl)
    refine LPL28 _ (fun z48 z49 z50 σ51 H locs ls h hP hS hl => ?_) gFu _ _ _ _ _ _ _ h hP hS (lv_sub hl [0, 1, 2, 3, 4, 5] rfl)
    refine lv_iload hx hb dX7_latestGain_121 (lv_at hl 1 rfl) ?_
    exact g_iret hx hb hr hlk hE hP hS h dX7_latestGain_123

def M_X7_parishBy (a1 a2 : Int32) (σ : gSt) : gO :=
  if a2 = (-1) then (gIx 10 a1 (gIx 10 (σ 87 a1.toNatClampNeg) (some ((σ 13 (σ 87 a1.toNatClampNeg).toNatClampNeg), σ)))) else (gBd (M_X1_has a2 σ) (fun r3 σ2 => if r3 = 0 then (some ((-1), σ2)) else (gIx 24 a2 (some ((σ2 20 a2.toNatClampNeg), σ2)))))
set_option maxHeartbeats 4000000 in
set_option maxRecDepth 100000 in
theorem c_X7_parishBy (l : Launch) (G : gPar) (a1 a2 : Int32) (σ : gSt) {r : Int32} {σ' : gSt} (h : M_X7_parishBy a1 a2 σ = some (r, σ')) : gC l G yX7_parishBy cX7_parishBy 3 (some .int) 1 21 [.ref (G.2.2.1 85), .int a1, .int a2] σ r σ' := by
  refine gC_of (by decide) (Nat.le_of_ble_eq_true rfl) ?_
  intro p e s m below meth c hx hb hr ht hown hlk hml hE hP ls hl
  have hS : va_S (gA G) s.heap s.heap [] := va_S.rf
  have hl : lv_has ls 3 [(0, .ref (G.2.2.1 85)), (1, .int a1), (2, .int a2)] := hl
  unfold M_X7_parishBy at h
  refine lv_iload_n hx hb dX7_parishBy_0 rfl (lv_at hl 2 rfl) ?_
  refine lv_iconst (v := (-1)) hx hb dX7_parishBy_1 (by decide) ?_
  refine lv_icmp_ne (tgt := 23) hx hb dX7_parishBy_2 (by decide) (fun c1 => ?_) (fun c1 => ?_)
  · have h := g_iff c1 h
    refine lv_aload_n hx hb dX7_parishBy_23 rfl (lv_at hl 0 rfl) ?_
    refine g_get hx hb ht hown hE hP (by decide) gE_85 uX7 rfl 0 (by decide) m_284 rfl rfl dX7_parishBy_24 ?_
    refine g_get hx hb ht hown hE hP (by decide) gE_1 uX0 rfl 2 (by decide) m_252 rfl rfl dX7_parishBy_27 ?_
    refine lv_iload_n hx hb dX7_parishBy_30 rfl (lv_at hl 2 rfl) ?_
    obtain ⟨r3, σ2, hcr3, h⟩ := g_bd h
    refine g_callV (As := [.int a2]) (n := 1) hx hb hml hown ht (c_X1_has l G _ _ hcr3) m_525 m_437 m_438 m_35 m_439 (by decide +kernel) (by decide) gE_17 rfl hE hP hS (fun _ h => h) (fun _ _ h => h) rfl hl.1 rfl (Nat.le_of_ble_eq_true rfl) dX7_parishBy_31 ⟨by decide, by decide⟩ ⟨Nat.zero_le _, Nat.zero_le _⟩ (fun H locs hP hS => ?_)
    refine lv_if_eq (tgt := 52) hx hb dX7_parishBy_34 (by decide) (fun c4 => ?_) (fun c4 => ?_)
    · have h := g_ift c4 h
      refine lv_iconst (v := (-1)) hx hb dX7_parishBy_52 (by decide) ?_
      exact g_iret hx hb hr hlk hE hP hS h dX7_parishBy_53
    · have h := g_iff c4 h
      refine lv_aload_n hx hb dX7_parishBy_37 rfl (lv_at hl 0 rfl) ?_
      refine g_get hx hb ht hown hE hP (by decide) gE_85 uX7 rfl 0 (by decide) m_284 rfl rfl dX7_parishBy_38 ?_
      refine g_get hx hb ht hown hE hP (by decide) gE_1 uX0 rfl 2 (by decide) m_252 rfl rfl dX7_parishBy_41 ?_
      refine g_get hx hb ht hown hE hP (by decide) gE_17 uX1 rfl 3 (by decide) m_129 rfl rfl dX7_parishBy_44 ?_
      refine lv_iload_n hx hb dX7_parishBy_47 rfl (lv_at hl 2 rfl) ?_
      obtain ⟨i5, h⟩ := g_ix h
      refine g_iald hx hb hE hP (by decide) rfl (by decide) i5 dX7_parishBy_48 ?_
      refine lv_goto (tgt := 53) hx hb dX7_parishBy_49 (by decide) ?_
      exact g_iret hx hb hr hlk hE hP hS h dX7_parishBy_53
  · have h := g_ift c1 h
    refine lv_aload_n hx hb dX7_parishBy_5 rfl (lv_at hl 0 rfl) ?_
    refine g_get hx hb ht hown hE hP (by decide) gE_85 uX7 rfl 0 (by decide) m_284 rfl rfl dX7_parishBy_6 ?_
    refine g_get hx hb ht hown hE hP (by decide) gE_1 uX0 rfl 1 (by decide) m_250 rfl rfl dX7_parishBy_9 ?_
    refine g_get hx hb ht hown hE hP (by decide) gE_11 uX5 rfl 2 (by decide) m_94 rfl rfl dX7_parishBy_12 ?_
    refine lv_aload_n hx hb dX7_parishBy_15 rfl (lv_at hl 0 rfl) ?_
    refine g_get hx hb ht hown hE hP (by decide) gE_85 uX7 rfl 2 (by decide) m_286 rfl rfl dX7_parishBy_16 ?_
    refine lv_iload_n hx hb dX7_parishBy_19 rfl (lv_at hl 1 rfl) ?_
    obtain ⟨i6, h⟩ := g_ix h
    refine g_iald hx hb hE hP (by decide) rfl (by decide) i6 dX7_parishBy_20 ?_
    obtain ⟨i7, h⟩ := g_ix h
    refine g_iald hx hb hE hP (by decide) rfl (by decide) i7 dX7_parishBy_21 ?_
    exact g_iret hx hb hr hlk hE hP hS h dX7_parishBy_22

def L2_X7_teller (a1 : Int32) : Nat → Int32 → gSt → (Int32 → gSt → gO) → gO
  | 0, _, _, _ => none
  | nL2 + 1, l2_2, σL2, kL2 =>
    if l2_2 ≤ 0 then (kL2 l2_2 σL2) else (gBd (M_X7_latestGain l2_2 a1 σL2) (fun r5 σ4 => if r5 = (-2) then (gNm (l2_2 + (-1) : Int32) (fun x7 => L2_X7_teller a1 nL2 x7 σ4 kL2)) else (some (l2_2, σ4))))
def M_X7_teller (a1 : Int32) (σ : gSt) : gO :=
  gNm (((σ 85 6) - 1) : Int32) (fun x1 => L2_X7_teller a1 gFu x1 σ (fun z8 σ9 => some (0, σ9)))
set_option maxHeartbeats 4000000 in
set_option maxRecDepth 100000 in
theorem c_X7_teller (l : Launch) (G : gPar) (a1 : Int32) (σ : gSt) {r : Int32} {σ' : gSt} (h : M_X7_teller a1 σ = some (r, σ')) : gC l G yX7_teller cX7_teller 3 (some .int) 1 26 [.ref (G.2.2.1 85), .int a1] σ r σ' := by
  refine gC_of (by decide) (Nat.le_of_ble_eq_true rfl) ?_
  intro p e s m below meth c hx hb hr ht hown hlk hml hE hP ls hl
  have hS : va_S (gA G) s.heap s.heap [] := va_S.rf
  have hl : lv_has ls 3 [(0, .ref (G.2.2.1 85)), (1, .int a1)] := hl
  unfold M_X7_teller at h
  refine lv_aload_n hx hb dX7_teller_0 rfl (lv_at hl 0 rfl) ?_
  refine g_get hx hb ht hown hE hP (by decide) gE_85 uX7 rfl 6 (by decide) m_290 rfl rfl dX7_teller_1 ?_
  refine lv_iconst (v := 1) hx hb dX7_teller_4 (by decide) ?_
  refine lv_isub hx hb dX7_teller_5 ?_
  refine lv_topi (fun x1 ex1 => ?_)
  have h := g_nm ex1 h
  refine lv_istore_n (lv' := [(2, .int x1), (0, .ref (G.2.2.1 85)), (1, .int a1)]) hx hb dX7_teller_6 rfl hl (by decide) rfl (fun ls hl => ?_)
  have LPL2 : ∀ (kL2 : Int32 → gSt → gO), (∀ (l2_2 : Int32) (σL2 : gSt) (H : Heap) (locs : List Loc) (ls : Array Slot), kL2 l2_2 σL2 = some (r, σ') → gW G σL2 H → va_S (gA G) s.heap H locs → lv_has ls 3 [(2, .int l2_2), (0, .ref (G.2.2.1 85)), (1, .int a1)] → W p l e (gRm 1 26) s m ([.ref (G.2.2.1 85), .int a1].toArray) below meth c H locs 0 0 (MQ below (gQ G r σ') ([.ref (G.2.2.1 85), .int a1].toArray) s 0 0 (gA G)) (F0 m 30 ls [])) → ∀ (nL2 : Nat) (l2_2 : Int32) (σL2 : gSt) (H : Heap) (locs : List Loc) (ls : Array Slot), L2_X7_teller a1 nL2 l2_2 σL2 kL2 = some (r, σ') → gW G σL2 H → va_S (gA G) s.heap H locs → lv_has ls 3 [(2, .int l2_2), (0, .ref (G.2.2.1 85)), (1, .int a1)] → W p l e (gRm 1 26) s m ([.ref (G.2.2.1 85), .int a1].toArray) below meth c H locs 0 0 (MQ below (gQ G r σ') ([.ref (G.2.2.1 85), .int a1].toArray) s 0 0 (gA G)) (F0 m 7 ls []) := by
    intro kL2 hKL2 nL2
    induction nL2 with
    | zero =>
      intro l2_2 σL2 H locs ls h
      cases h
    | succ nL2 ihL2 =>
      intro l2_2 σL2 H locs ls h hP hS hl
      rw [L2_X7_teller] at h
      refine lv_iload_n hx hb dX7_teller_7 rfl (lv_at hl 0 rfl) ?_
      refine lv_if_le (tgt := 30) hx hb dX7_teller_8 (by decide) (fun c3 => ?_) (fun c3 => ?_)
      · have h := g_ift c3 h
        exact hKL2 _ _ _ _ _ h hP hS (lv_sub hl [0, 1, 2] rfl)
      · have h := g_iff c3 h
        refine lv_aload_n hx hb dX7_teller_11 rfl (lv_at hl 1 rfl) ?_
        refine lv_iload_n hx hb dX7_teller_12 rfl (lv_at hl 0 rfl) ?_
        refine lv_iload_n hx hb dX7_teller_13 rfl (lv_at hl 2 rfl) ?_
        obtain ⟨r5, σ4, hcr5, h⟩ := g_bd h
        refine g_callV (As := [.int l2_2, .int a1]) (n := 2) hx hb hml hown ht (c_X7_latestGain l G _ _ _ hcr5) m_517 m_519 m_6 m_39 m_520 (by decide +kernel) (by decide) gE_85 rfl hE hP hS (fun _ h => h) (fun _ _ h => h) rfl hl.1 rfl (Nat.le_of_ble_eq_true rfl) dX7_teller_14 ⟨by decide, by decide⟩ ⟨Nat.zero_le _, Nat.zero_le _⟩ (fun H locs hP hS => ?_)
        refine lv_bipush (v := (-2)) hx hb dX7_teller_17 (by decide) ?_
        refine lv_icmp_eq (tgt := 24) hx hb dX7_teller_19 (by decide) (fun c6 => ?_) (fun c6 => ?_)
        · have h := g_ift c6 h
          obtain ⟨x7, ex7⟩ : ∃ y : Int32, y = l2_2 + (-1) := ⟨_, rfl⟩
          have h := g_nm ex7 h
          refine lv_iinc (v := x7) (lv' := [(2, .int x7), (0, .ref (G.2.2.1 85)), (1, .int a1)]) hx hb dX7_teller_24 hl (k := 0) rfl (by rw [ex7]; rfl) (by decide) rfl (fun ls hl => ?_)
          refine lv_goto (tgt := 7) hx hb dX7_teller_27 (by decide) ?_
          exact ihL2 _ _ _ _ _ h hP hS (lv_sub hl [0, 1, 2] rfl)
        · have h := g_iff c6 h
          refine lv_iload_n hx hb dX7_teller_22 rfl (lv_at hl 0 rfl) ?_
          exact g_iret hx hb hr hlk hE hP hS h dX7_teller_23
  refine LPL2 _ (fun z8 σ9 H locs ls h hP hS hl => ?_) gFu _ _ _ _ _ h hP hS (lv_sub hl [0, 1, 2] rfl)
  refine lv_iconst (v := 0) hx hb dX7_teller_30 (by decide) ?_
  exact g_iret hx hb hr hlk hE hP hS h dX7_teller_31

def M_X7_ownOf (a1 a2 a3 : Int32) (σ : gSt) : gO :=
  gBd (M_X7_prepare a1 a2 a3 σ) (fun r2 σ1 => gBd (M_X7_latestGain 0 0 σ1) (fun r4 σ3 => gBd (M_X7_parishBy 0 r4 σ3) (fun r6 σ5 => some (r6, σ5))))
set_option maxHeartbeats 4000000 in
set_option maxRecDepth 100000 in
theorem c_X7_ownOf (l : Launch) (G : gPar) (a1 a2 a3 : Int32) (σ : gSt) {r : Int32} {σ' : gSt} (h : M_X7_ownOf a1 a2 a3 σ = some (r, σ')) : gC l G yX7_ownOf cX7_ownOf 4 (some .int) 4 98 [.ref (G.2.2.1 85), .int a1, .int a2, .int a3] σ r σ' := by
  refine gC_of (by decide) (Nat.le_of_ble_eq_true rfl) ?_
  intro p e s m below meth c hx hb hr ht hown hlk hml hE hP ls hl
  have hS : va_S (gA G) s.heap s.heap [] := va_S.rf
  have hl : lv_has ls 4 [(0, .ref (G.2.2.1 85)), (1, .int a1), (2, .int a2), (3, .int a3)] := hl
  unfold M_X7_ownOf at h
  refine lv_aload_n hx hb dX7_ownOf_0 rfl (lv_at hl 0 rfl) ?_
  refine lv_iload_n hx hb dX7_ownOf_1 rfl (lv_at hl 1 rfl) ?_
  refine lv_iload_n hx hb dX7_ownOf_2 rfl (lv_at hl 2 rfl) ?_
  refine lv_iload_n hx hb dX7_ownOf_3 rfl (lv_at hl 3 rfl) ?_
  obtain ⟨r2, σ1, hcr2, h⟩ := g_bd h
  refine g_callVv (As := [.int a1, .int a2, .int a3]) (n := 3) hx hb hml hown ht (c_X7_prepare l G _ _ _ _ hcr2) m_484 m_486 m_2 m_39 m_487 (by decide +kernel) (by decide) gE_85 rfl hE hP hS (fun _ h => h) (fun _ _ h => h) rfl hl.1 rfl (Nat.le_of_ble_eq_true rfl) dX7_ownOf_4 ⟨by decide, by decide⟩ ⟨Nat.zero_le _, Nat.zero_le _⟩ (fun H locs hP hS => ?_)
  refine lv_aload_n hx hb dX7_ownOf_7 rfl (lv_at hl 0 rfl) ?_
  refine lv_iconst (v := 0) hx hb dX7_ownOf_8 (by decide) ?_
  refine lv_aload_n hx hb dX7_ownOf_9 rfl (lv_at hl 0 rfl) ?_
  refine lv_iconst (v := 0) hx hb dX7_ownOf_10 (by decide) ?_
  refine lv_iconst (v := 0) hx hb dX7_ownOf_11 (by decide) ?_
  obtain ⟨r4, σ3, hcr4, h⟩ := g_bd h
  refine g_callV (As := [.int 0, .int 0]) (n := 2) hx hb hml hown ht (c_X7_latestGain l G _ _ _ hcr4) m_517 m_519 m_6 m_39 m_520 (by decide +kernel) (by decide) gE_85 rfl hE hP hS (fun _ h => h) (fun _ _ h => h) rfl hl.1 rfl (Nat.le_of_ble_eq_true rfl) dX7_ownOf_12 ⟨by decide, by decide⟩ ⟨Nat.zero_le _, Nat.zero_le _⟩ (fun H locs hP hS => ?_)
  obtain ⟨r6, σ5, hcr6, h⟩ := g_bd h
  refine g_callV (As := [.int 0, .int r4]) (n := 2) hx hb hml hown ht (c_X7_parishBy l G _ _ _ hcr6) m_521 m_523 m_7 m_39 m_524 (by decide +kernel) (by decide) gE_85 rfl hE hP hS (fun _ h => h) (fun _ _ h => h) rfl hl.1 rfl (Nat.le_of_ble_eq_true rfl) dX7_ownOf_15 ⟨by decide, by decide⟩ ⟨Nat.zero_le _, Nat.zero_le _⟩ (fun H locs hP hS => ?_)
  exact g_iret hx hb hr hlk hE hP hS h dX7_ownOf_18

def M_X7_settlementOf (a1 a2 a3 : Int32) (σ : gSt) : gO :=
  gBd (M_X7_prepare a1 a2 a3 σ) (fun r2 σ1 => gBd (M_X7_teller 0 σ1) (fun r4 σ3 => gBd (M_X7_latestGain r4 0 σ3) (fun r6 σ5 => gBd (M_X7_parishBy r4 r6 σ5) (fun r8 σ7 => some (r8, σ7)))))
set_option maxHeartbeats 4000000 in
set_option maxRecDepth 100000 in
theorem c_X7_settlementOf (l : Launch) (G : gPar) (a1 a2 a3 : Int32) (σ : gSt) {r : Int32} {σ' : gSt} (h : M_X7_settlementOf a1 a2 a3 σ = some (r, σ')) : gC l G yX7_settlementOf cX7_settlementOf 5 (some .int) 4 98 [.ref (G.2.2.1 85), .int a1, .int a2, .int a3] σ r σ' := by
  refine gC_of (by decide) (Nat.le_of_ble_eq_true rfl) ?_
  intro p e s m below meth c hx hb hr ht hown hlk hml hE hP ls hl
  have hS : va_S (gA G) s.heap s.heap [] := va_S.rf
  have hl : lv_has ls 5 [(0, .ref (G.2.2.1 85)), (1, .int a1), (2, .int a2), (3, .int a3)] := hl
  unfold M_X7_settlementOf at h
  refine lv_aload_n hx hb dX7_settlementOf_0 rfl (lv_at hl 0 rfl) ?_
  refine lv_iload_n hx hb dX7_settlementOf_1 rfl (lv_at hl 1 rfl) ?_
  refine lv_iload_n hx hb dX7_settlementOf_2 rfl (lv_at hl 2 rfl) ?_
  refine lv_iload_n hx hb dX7_settlementOf_3 rfl (lv_at hl 3 rfl) ?_
  obtain ⟨r2, σ1, hcr2, h⟩ := g_bd h
  refine g_callVv (As := [.int a1, .int a2, .int a3]) (n := 3) hx hb hml hown ht (c_X7_prepare l G _ _ _ _ hcr2) m_484 m_486 m_2 m_39 m_487 (by decide +kernel) (by decide) gE_85 rfl hE hP hS (fun _ h => h) (fun _ _ h => h) rfl hl.1 rfl (Nat.le_of_ble_eq_true rfl) dX7_settlementOf_4 ⟨by decide, by decide⟩ ⟨Nat.zero_le _, Nat.zero_le _⟩ (fun H locs hP hS => ?_)
  refine lv_aload_n hx hb dX7_settlementOf_7 rfl (lv_at hl 0 rfl) ?_
  refine lv_iconst (v := 0) hx hb dX7_settlementOf_8 (by decide) ?_
  obtain ⟨r4, σ3, hcr4, h⟩ := g_bd h
  refine g_callV (As := [.int 0]) (n := 1) hx hb hml hown ht (c_X7_teller l G _ _ hcr4) m_538 m_540 m_9 m_39 m_541 (by decide +kernel) (by decide) gE_85 rfl hE hP hS (fun _ h => h) (fun _ _ h => h) rfl hl.1 rfl (Nat.le_of_ble_eq_true rfl) dX7_settlementOf_9 ⟨by decide, by decide⟩ ⟨Nat.zero_le _, Nat.zero_le _⟩ (fun H locs hP hS => ?_)
  refine lv_istore (lv' := [(4, .int r4), (0, .ref (G.2.2.1 85)), (1, .int a1), (2, .int a2), (3, .int a3)]) hx hb dX7_settlementOf_12 hl (by decide) rfl (fun ls hl => ?_)
  refine lv_aload_n hx hb dX7_settlementOf_14 rfl (lv_at hl 1 rfl) ?_
  refine lv_iload hx hb dX7_settlementOf_15 (lv_at hl 0 rfl) ?_
  refine lv_aload_n hx hb dX7_settlementOf_17 rfl (lv_at hl 1 rfl) ?_
  refine lv_iload hx hb dX7_settlementOf_18 (lv_at hl 0 rfl) ?_
  refine lv_iconst (v := 0) hx hb dX7_settlementOf_20 (by decide) ?_
  obtain ⟨r6, σ5, hcr6, h⟩ := g_bd h
  refine g_callV (As := [.int r4, .int 0]) (n := 2) hx hb hml hown ht (c_X7_latestGain l G _ _ _ hcr6) m_517 m_519 m_6 m_39 m_520 (by decide +kernel) (by decide) gE_85 rfl hE hP hS (fun _ h => h) (fun _ _ h => h) rfl hl.1 rfl (Nat.le_of_ble_eq_true rfl) dX7_settlementOf_21 ⟨by decide, by decide⟩ ⟨Nat.zero_le _, Nat.zero_le _⟩ (fun H locs hP hS => ?_)
  obtain ⟨r8, σ7, hcr8, h⟩ := g_bd h
  refine g_callV (As := [.int r4, .int r6]) (n := 2) hx hb hml hown ht (c_X7_parishBy l G _ _ _ hcr8) m_521 m_523 m_7 m_39 m_524 (by decide +kernel) (by decide) gE_85 rfl hE hP hS (fun _ h => h) (fun _ _ h => h) rfl hl.1 rfl (Nat.le_of_ble_eq_true rfl) dX7_settlementOf_24 ⟨by decide, by decide⟩ ⟨Nat.zero_le _, Nat.zero_le _⟩ (fun H locs hP hS => ?_)
  exact g_iret hx hb hr hlk hE hP hS h dX7_settlementOf_27

def M_X7_tellerOf (a1 a2 a3 : Int32) (σ : gSt) : gO :=
  gBd (M_X7_prepare a1 a2 a3 σ) (fun r2 σ1 => gBd (M_X7_teller 0 σ1) (fun r4 σ3 => gIx 10 r4 (some ((σ3 87 r4.toNatClampNeg), σ3))))
set_option maxHeartbeats 4000000 in
set_option maxRecDepth 100000 in
theorem c_X7_tellerOf (l : Launch) (G : gPar) (a1 a2 a3 : Int32) (σ : gSt) {r : Int32} {σ' : gSt} (h : M_X7_tellerOf a1 a2 a3 σ = some (r, σ')) : gC l G yX7_tellerOf cX7_tellerOf 4 (some .int) 4 98 [.ref (G.2.2.1 85), .int a1, .int a2, .int a3] σ r σ' := by
  refine gC_of (by decide) (Nat.le_of_ble_eq_true rfl) ?_
  intro p e s m below meth c hx hb hr ht hown hlk hml hE hP ls hl
  have hS : va_S (gA G) s.heap s.heap [] := va_S.rf
  have hl : lv_has ls 4 [(0, .ref (G.2.2.1 85)), (1, .int a1), (2, .int a2), (3, .int a3)] := hl
  unfold M_X7_tellerOf at h
  refine lv_aload_n hx hb dX7_tellerOf_0 rfl (lv_at hl 0 rfl) ?_
  refine lv_iload_n hx hb dX7_tellerOf_1 rfl (lv_at hl 1 rfl) ?_
  refine lv_iload_n hx hb dX7_tellerOf_2 rfl (lv_at hl 2 rfl) ?_
  refine lv_iload_n hx hb dX7_tellerOf_3 rfl (lv_at hl 3 rfl) ?_
  obtain ⟨r2, σ1, hcr2, h⟩ := g_bd h
  refine g_callVv (As := [.int a1, .int a2, .int a3]) (n := 3) hx hb hml hown ht (c_X7_prepare l G _ _ _ _ hcr2) m_484 m_486 m_2 m_39 m_487 (by decide +kernel) (by decide) gE_85 rfl hE hP hS (fun _ h => h) (fun _ _ h => h) rfl hl.1 rfl (Nat.le_of_ble_eq_true rfl) dX7_tellerOf_4 ⟨by decide, by decide⟩ ⟨Nat.zero_le _, Nat.zero_le _⟩ (fun H locs hP hS => ?_)
  refine lv_aload_n hx hb dX7_tellerOf_7 rfl (lv_at hl 0 rfl) ?_
  refine g_get hx hb ht hown hE hP (by decide) gE_85 uX7 rfl 2 (by decide) m_286 rfl rfl dX7_tellerOf_8 ?_
  refine lv_aload_n hx hb dX7_tellerOf_11 rfl (lv_at hl 0 rfl) ?_
  refine lv_iconst (v := 0) hx hb dX7_tellerOf_12 (by decide) ?_
  obtain ⟨r4, σ3, hcr4, h⟩ := g_bd h
  refine g_callV (As := [.int 0]) (n := 1) hx hb hml hown ht (c_X7_teller l G _ _ hcr4) m_538 m_540 m_9 m_39 m_541 (by decide +kernel) (by decide) gE_85 rfl hE hP hS (fun _ h => h) (fun _ _ h => h) rfl hl.1 rfl (Nat.le_of_ble_eq_true rfl) dX7_tellerOf_13 ⟨by decide, by decide⟩ ⟨Nat.zero_le _, Nat.zero_le _⟩ (fun H locs hP hS => ?_)
  obtain ⟨i5, h⟩ := g_ix h
  refine g_iald hx hb hE hP (by decide) rfl (by decide) i5 dX7_tellerOf_16 ?_
  exact g_iret hx hb hr hlk hE hP hS h dX7_tellerOf_17

def L2_X7_takeTurns : Nat → Int32 → Int32 → gSt → (Int32 → Int32 → gSt → gO) → gO
  | 0, _, _, _, _ => none
  | nL2 + 1, l2_2, l2_1, σL2, kL2 =>
    if 9 ≤ (σL2 85 7) then (kL2 l2_2 l2_1 σL2) else (if l2_2 = 0 then (kL2 l2_2 l2_1 σL2) else (gBd (M_X7_teller l2_1 σL2) (fun r6 σ5 => gBd (M_X7_latestGain r6 l2_1 σ5) (fun r8 σ7 => gBd (M_X7_parishBy r6 r8 σ7) (fun r10 σ9 => gIx 9 (σ9 85 7) (gNm (gUp σ9 89 (σ9 85 7).toNatClampNeg r8) (fun σ12 => if r10 = (-1) then (gIx 9 (σ12 85 7) (gNm (gUp σ12 90 (σ12 85 7).toNatClampNeg ((1 : Int32) <<< (6 &&& 31))) (fun σ30 => gNm (gUp σ30 85 7 ((σ30 85 7) + 1)) (fun σ31 => gBd (M_X1_has r8 σ31) (fun r33 σ32 => if r33 = 0 then (gNm ((l2_1 ||| 0) : Int32) (fun x36 => L2_X7_takeTurns nL2 0 x36 σ32 kL2)) else (gBd (M_X1_isDoubted r8 σ32) (fun r38 σ37 => if r38 = 0 then (gNm ((l2_1 ||| 0) : Int32) (fun x41 => L2_X7_takeTurns nL2 0 x41 σ37 kL2)) else (gNm ((l2_1 ||| ((1 : Int32) <<< (r8 &&& 31))) : Int32) (fun x43 => L2_X7_takeTurns nL2 1 x43 σ37 kL2))))))))) else (gIx 9 (σ12 85 7) (gNm (gUp σ12 90 (σ12 85 7).toNatClampNeg ((1 : Int32) <<< (r10 &&& 31))) (fun σ15 => gNm (gUp σ15 85 7 ((σ15 85 7) + 1)) (fun σ16 => gBd (M_X1_has r8 σ16) (fun r18 σ17 => if r18 = 0 then (gNm ((l2_1 ||| 0) : Int32) (fun x21 => L2_X7_takeTurns nL2 0 x21 σ17 kL2)) else (gBd (M_X1_isDoubted r8 σ17) (fun r23 σ22 => if r23 = 0 then (gNm ((l2_1 ||| 0) : Int32) (fun x26 => L2_X7_takeTurns nL2 0 x26 σ22 kL2)) else (gNm ((l2_1 ||| ((1 : Int32) <<< (r8 &&& 31))) : Int32) (fun x28 => L2_X7_takeTurns nL2 1 x28 σ22 kL2))))))))))))))))
def M_X7_takeTurns (σ : gSt) : gO :=
  gNm (gUp σ 85 7 0) (fun σ1 => L2_X7_takeTurns gFu 1 0 σ1 (fun z44 z45 σ46 => some (0, σ46)))
set_option maxHeartbeats 4000000 in
set_option maxRecDepth 100000 in
theorem c_X7_takeTurns (l : Launch) (G : gPar) (σ : gSt) {r : Int32} {σ' : gSt} (h : M_X7_takeTurns σ = some (r, σ')) : gV l G yX7_takeTurns cX7_takeTurns 6 2 48 [.ref (G.2.2.1 85)] σ σ' := by
  refine gV_of (by decide) (Nat.le_of_ble_eq_true rfl) ?_
  intro p e s m below meth c hx hb hr ht hown hlk hml hE hP ls hl
  have hS : va_S (gA G) s.heap s.heap [] := va_S.rf
  have hl : lv_has ls 6 [(0, .ref (G.2.2.1 85))] := hl
  unfold M_X7_takeTurns at h
  refine lv_iconst (v := 0) hx hb dX7_takeTurns_0 (by decide) ?_
  refine lv_istore_n (lv' := [(1, .int 0), (0, .ref (G.2.2.1 85))]) hx hb dX7_takeTurns_1 rfl hl (by decide) rfl (fun ls hl => ?_)
  refine lv_iconst (v := 1) hx hb dX7_takeTurns_2 (by decide) ?_
  refine lv_istore_n (lv' := [(2, .int 1), (1, .int 0), (0, .ref (G.2.2.1 85))]) hx hb dX7_takeTurns_3 rfl hl (by decide) rfl (fun ls hl => ?_)
  refine lv_aload_n hx hb dX7_takeTurns_4 rfl (lv_at hl 2 rfl) ?_
  refine lv_iconst (v := 0) hx hb dX7_takeTurns_5 (by decide) ?_
  refine g_put hx hb ht hown hE hP hS (by decide) gE_85 uX7 tyX7_ok nmX7 rfl 7 (by decide) m_291 rfl rfl rfl rfl rfl (Nat.le_of_ble_eq_true rfl) rfl dX7_takeTurns_6 (fun H locs σ1 eσ1 hP hS => ?_)
  have h := g_nm eσ1 h
  have LPL2 : ∀ (kL2 : Int32 → Int32 → gSt → gO), (∀ (l2_2 l2_1 : Int32) (σL2 : gSt) (H : Heap) (locs : List Loc) (ls : Array Slot), kL2 l2_2 l2_1 σL2 = some (r, σ') → gW G σL2 H → va_S (gA G) s.heap H locs → lv_has ls 6 [(2, .int l2_2), (1, .int l2_1), (0, .ref (G.2.2.1 85))] → W p l e (gRm 2 48) s m ([.ref (G.2.2.1 85)].toArray) below meth c H locs 0 0 (MQ below (gQv G σ') ([.ref (G.2.2.1 85)].toArray) s 0 0 (gA G)) (F0 m 144 ls [])) → ∀ (nL2 : Nat) (l2_2 l2_1 : Int32) (σL2 : gSt) (H : Heap) (locs : List Loc) (ls : Array Slot), L2_X7_takeTurns nL2 l2_2 l2_1 σL2 kL2 = some (r, σ') → gW G σL2 H → va_S (gA G) s.heap H locs → lv_has ls 6 [(2, .int l2_2), (1, .int l2_1), (0, .ref (G.2.2.1 85))] → W p l e (gRm 2 48) s m ([.ref (G.2.2.1 85)].toArray) below meth c H locs 0 0 (MQ below (gQv G σ') ([.ref (G.2.2.1 85)].toArray) s 0 0 (gA G)) (F0 m 9 ls []) := by
    intro kL2 hKL2 nL2
    induction nL2 with
    | zero =>
      intro l2_2 l2_1 σL2 H locs ls h
      cases h
    | succ nL2 ihL2 =>
      intro l2_2 l2_1 σL2 H locs ls h hP hS hl
      rw [L2_X7_takeTurns] at h
      refine lv_aload_n hx hb dX7_takeTurns_9 rfl (lv_at hl 2 rfl) ?_
      refine g_get hx hb ht hown hE hP (by decide) gE_85 uX7 rfl 7 (by decide) m_291 rfl rfl dX7_takeTurns_10 ?_
      refine lv_bipush (v := 9) hx hb dX7_takeTurns_13 (by decide) ?_
      refine lv_icmp_ge (tgt := 144) hx hb dX7_takeTurns_15 (by decide) (fun c3 => ?_) (fun c3 => ?_)
      · have h := g_ift c3 h
        exact hKL2 _ _ _ _ _ _ h hP hS (lv_sub hl [0, 1, 2] rfl)
      · have h := g_iff c3 h
        refine lv_iload_n hx hb dX7_takeTurns_18 rfl (lv_at hl 0 rfl) ?_
        refine lv_if_eq (tgt := 144) hx hb dX7_takeTurns_19 (by decide) (fun c4 => ?_) (fun c4 => ?_)
        · have h := g_ift c4 h
          exact hKL2 _ _ _ _ _ _ h hP hS (lv_sub hl [0, 1, 2] rfl)
        · have h := g_iff c4 h
          refine lv_aload_n hx hb dX7_takeTurns_22 rfl (lv_at hl 2 rfl) ?_
          refine lv_iload_n hx hb dX7_takeTurns_23 rfl (lv_at hl 1 rfl) ?_
          obtain ⟨r6, σ5, hcr6, h⟩ := g_bd h
          refine g_callV (As := [.int l2_1]) (n := 1) hx hb hml hown ht (c_X7_teller l G _ _ hcr6) m_538 m_540 m_9 m_39 m_541 (by decide +kernel) (by decide) gE_85 rfl hE hP hS (fun _ h => h) (fun _ _ h => h) rfl hl.1 rfl (Nat.le_of_ble_eq_true rfl) dX7_takeTurns_24 ⟨by decide, by decide⟩ ⟨Nat.zero_le _, Nat.zero_le _⟩ (fun H locs hP hS => ?_)
          refine lv_istore_n (lv' := [(3, .int r6), (2, .int l2_2), (1, .int l2_1), (0, .ref (G.2.2.1 85))]) hx hb dX7_takeTurns_27 rfl hl (by decide) rfl (fun ls hl => ?_)
          refine lv_aload_n hx hb dX7_takeTurns_28 rfl (lv_at hl 3 rfl) ?_
          refine lv_iload_n hx hb dX7_takeTurns_29 rfl (lv_at hl 0 rfl) ?_
          refine lv_iload_n hx hb dX7_takeTurns_30 rfl (lv_at hl 2 rfl) ?_
          obtain ⟨r8, σ7, hcr8, h⟩ := g_bd h
          refine g_callV (As := [.int r6, .int l2_1]) (n := 2) hx hb hml hown ht (c_X7_latestGain l G _ _ _ hcr8) m_517 m_519 m_6 m_39 m_520 (by decide +kernel) (by decide) gE_85 rfl hE hP hS (fun _ h => h) (fun _ _ h => h) rfl hl.1 rfl (Nat.le_of_ble_eq_true rfl) dX7_takeTurns_31 ⟨by decide, by decide⟩ ⟨Nat.zero_le _, Nat.zero_le _⟩ (fun H locs hP hS => ?_)
          refine lv_istore (lv' := [(4, .int r8), (3, .int r6), (2, .int l2_2), (1, .int l2_1), (0, .ref (G.2.2.1 85))]) hx hb dX7_takeTurns_34 hl (by decide) rfl (fun ls hl => ?_)
          refine lv_aload_n hx hb dX7_takeTurns_36 rfl (lv_at hl 4 rfl) ?_
          refine lv_iload_n hx hb dX7_takeTurns_37 rfl (lv_at hl 1 rfl) ?_
          refine lv_iload hx hb dX7_takeTurns_38 (lv_at hl 0 rfl) ?_
          obtain ⟨r10, σ9, hcr10, h⟩ := g_bd h
          refine g_callV (As := [.int r6, .int r8]) (n := 2) hx hb hml hown ht (c_X7_parishBy l G _ _ _ hcr10) m_521 m_523 m_7 m_39 m_524 (by decide +kernel) (by decide) gE_85 rfl hE hP hS (fun _ h => h) (fun _ _ h => h) rfl hl.1 rfl (Nat.le_of_ble_eq_true rfl) dX7_takeTurns_40 ⟨by decide, by decide⟩ ⟨Nat.zero_le _, Nat.zero_le _⟩ (fun H locs hP hS => ?_)
          refine lv_istore (lv' := [(5, .int r10), (4, .int r8), (3, .int r6), (2, .int l2_2), (1, .int l2_1), (0, .ref (G.2.2.1 85))]) hx hb dX7_takeTurns_43 hl (by decide) rfl (fun ls hl => ?_)
          refine lv_aload_n hx hb dX7_takeTurns_45 rfl (lv_at hl 5 rfl) ?_
          refine g_get hx hb ht hown hE hP (by decide) gE_85 uX7 rfl 4 (by decide) m_288 rfl rfl dX7_takeTurns_46 ?_
          refine lv_aload_n hx hb dX7_takeTurns_49 rfl (lv_at hl 5 rfl) ?_
          refine g_get hx hb ht hown hE hP (by decide) gE_85 uX7 rfl 7 (by decide) m_291 rfl rfl dX7_takeTurns_50 ?_
          refine lv_iload hx hb dX7_takeTurns_53 (lv_at hl 1 rfl) ?_
          obtain ⟨i11, h⟩ := g_ix h
          refine g_iast hx hb hE hP hS (by decide) rfl (by decide) i11 dX7_takeTurns_55 (fun H locs σ12 eσ12 hP hS => ?_)
          have h := g_nm eσ12 h
          refine lv_aload_n hx hb dX7_takeTurns_56 rfl (lv_at hl 5 rfl) ?_
          refine g_get hx hb ht hown hE hP (by decide) gE_85 uX7 rfl 5 (by decide) m_289 rfl rfl dX7_takeTurns_57 ?_
          refine lv_aload_n hx hb dX7_takeTurns_60 rfl (lv_at hl 5 rfl) ?_
          refine g_get hx hb ht hown hE hP (by decide) gE_85 uX7 rfl 7 (by decide) m_291 rfl rfl dX7_takeTurns_61 ?_
          refine lv_iconst (v := 1) hx hb dX7_takeTurns_64 (by decide) ?_
          refine lv_iload hx hb dX7_takeTurns_65 (lv_at hl 0 rfl) ?_
          refine lv_iconst (v := (-1)) hx hb dX7_takeTurns_67 (by decide) ?_
          refine lv_icmp_ne (tgt := 76) hx hb dX7_takeTurns_68 (by decide) (fun c13 => ?_) (fun c13 => ?_)
          · have h := g_iff c13 h
            refine lv_iload hx hb dX7_takeTurns_76 (lv_at hl 0 rfl) ?_
            refine lv_ishl hx hb dX7_takeTurns_78 ?_
            obtain ⟨i14, h⟩ := g_ix h
            refine g_iast hx hb hE hP hS (by decide) rfl (by decide) i14 dX7_takeTurns_79 (fun H locs σ15 eσ15 hP hS => ?_)
            have h := g_nm eσ15 h
            refine lv_aload_n hx hb dX7_takeTurns_80 rfl (lv_at hl 5 rfl) ?_
            refine lv_dup hx hb dX7_takeTurns_81 rfl ?_
            refine g_get hx hb ht hown hE hP (by decide) gE_85 uX7 rfl 7 (by decide) m_291 rfl rfl dX7_takeTurns_82 ?_
            refine lv_iconst (v := 1) hx hb dX7_takeTurns_85 (by decide) ?_
            refine lv_iadd hx hb dX7_takeTurns_86 ?_
            refine g_put hx hb ht hown hE hP hS (by decide) gE_85 uX7 tyX7_ok nmX7 rfl 7 (by decide) m_291 rfl rfl rfl rfl rfl (Nat.le_of_ble_eq_true rfl) rfl dX7_takeTurns_87 (fun H locs σ16 eσ16 hP hS => ?_)
            have h := g_nm eσ16 h
            refine lv_aload_n hx hb dX7_takeTurns_90 rfl (lv_at hl 5 rfl) ?_
            refine g_get hx hb ht hown hE hP (by decide) gE_85 uX7 rfl 0 (by decide) m_284 rfl rfl dX7_takeTurns_91 ?_
            refine g_get hx hb ht hown hE hP (by decide) gE_1 uX0 rfl 2 (by decide) m_252 rfl rfl dX7_takeTurns_94 ?_
            refine lv_iload hx hb dX7_takeTurns_97 (lv_at hl 1 rfl) ?_
            obtain ⟨r18, σ17, hcr18, h⟩ := g_bd h
            refine g_callV (As := [.int r8]) (n := 1) hx hb hml hown ht (c_X1_has l G _ _ hcr18) m_525 m_437 m_438 m_35 m_439 (by decide +kernel) (by decide) gE_17 rfl hE hP hS (fun _ h => h) (fun _ _ h => h) rfl hl.1 rfl (Nat.le_of_ble_eq_true rfl) dX7_takeTurns_99 ⟨by decide, by decide⟩ ⟨Nat.zero_le _, Nat.zero_le _⟩ (fun H locs hP hS => ?_)
            refine lv_if_eq (tgt := 124) hx hb dX7_takeTurns_102 (by decide) (fun c19 => ?_) (fun c19 => ?_)
            · have h := g_ift c19 h
              refine lv_iconst (v := 0) hx hb dX7_takeTurns_124 (by decide) ?_
              refine lv_istore_n (lv' := [(2, .int 0), (5, .int r10), (4, .int r8), (3, .int r6), (1, .int l2_1), (0, .ref (G.2.2.1 85))]) hx hb dX7_takeTurns_125 rfl hl (by decide) rfl (fun ls hl => ?_)
              refine lv_iload_n hx hb dX7_takeTurns_126 rfl (lv_at hl 4 rfl) ?_
              refine lv_iload_n hx hb dX7_takeTurns_127 rfl (lv_at hl 0 rfl) ?_
              refine lv_if_eq (tgt := 138) hx hb dX7_takeTurns_128 (by decide) (fun _ => ?_) (fun c20 => absurd (by decide) c20)
              refine lv_iconst (v := 0) hx hb dX7_takeTurns_138 (by decide) ?_
              refine lv_ior hx hb dX7_takeTurns_139 ?_
              refine lv_topi (fun x21 ex21 => ?_)
              have h := g_nm ex21 h
              refine lv_istore_n (lv' := [(1, .int x21), (2, .int 0), (5, .int r10), (4, .int r8), (3, .int r6), (0, .ref (G.2.2.1 85))]) hx hb dX7_takeTurns_140 rfl hl (by decide) rfl (fun ls hl => ?_)
              refine lv_goto (tgt := 9) hx hb dX7_takeTurns_141 (by decide) ?_
              exact ihL2 _ _ _ _ _ _ h hP hS (lv_sub hl [1, 0, 5] rfl)
            · have h := g_iff c19 h
              refine lv_aload_n hx hb dX7_takeTurns_105 rfl (lv_at hl 5 rfl) ?_
              refine g_get hx hb ht hown hE hP (by decide) gE_85 uX7 rfl 0 (by decide) m_284 rfl rfl dX7_takeTurns_106 ?_
              refine g_get hx hb ht hown hE hP (by decide) gE_1 uX0 rfl 2 (by decide) m_252 rfl rfl dX7_takeTurns_109 ?_
              refine lv_iload hx hb dX7_takeTurns_112 (lv_at hl 1 rfl) ?_
              obtain ⟨r23, σ22, hcr23, h⟩ := g_bd h
              refine g_callV (As := [.int r8]) (n := 1) hx hb hml hown ht (c_X1_isDoubted l G _ _ hcr23) m_562 m_441 m_442 m_35 m_443 (by decide +kernel) (by decide) gE_17 rfl hE hP hS (fun _ h => h) (fun _ _ h => h) rfl hl.1 rfl (Nat.le_of_ble_eq_true rfl) dX7_takeTurns_114 ⟨by decide, by decide⟩ ⟨Nat.zero_le _, Nat.zero_le _⟩ (fun H locs hP hS => ?_)
              refine lv_if_eq (tgt := 124) hx hb dX7_takeTurns_117 (by decide) (fun c24 => ?_) (fun c24 => ?_)
              · have h := g_ift c24 h
                refine lv_iconst (v := 0) hx hb dX7_takeTurns_124 (by decide) ?_
                refine lv_istore_n (lv' := [(2, .int 0), (5, .int r10), (4, .int r8), (3, .int r6), (1, .int l2_1), (0, .ref (G.2.2.1 85))]) hx hb dX7_takeTurns_125 rfl hl (by decide) rfl (fun ls hl => ?_)
                refine lv_iload_n hx hb dX7_takeTurns_126 rfl (lv_at hl 4 rfl) ?_
                refine lv_iload_n hx hb dX7_takeTurns_127 rfl (lv_at hl 0 rfl) ?_
                refine lv_if_eq (tgt := 138) hx hb dX7_takeTurns_128 (by decide) (fun _ => ?_) (fun c25 => absurd (by decide) c25)
                refine lv_iconst (v := 0) hx hb dX7_takeTurns_138 (by decide) ?_
                refine lv_ior hx hb dX7_takeTurns_139 ?_
                refine lv_topi (fun x26 ex26 => ?_)
                have h := g_nm ex26 h
                refine lv_istore_n (lv' := [(1, .int x26), (2, .int 0), (5, .int r10), (4, .int r8), (3, .int r6), (0, .ref (G.2.2.1 85))]) hx hb dX7_takeTurns_140 rfl hl (by decide) rfl (fun ls hl => ?_)
                refine lv_goto (tgt := 9) hx hb dX7_takeTurns_141 (by decide) ?_
                exact ihL2 _ _ _ _ _ _ h hP hS (lv_sub hl [1, 0, 5] rfl)
              · have h := g_iff c24 h
                refine lv_iconst (v := 1) hx hb dX7_takeTurns_120 (by decide) ?_
                refine lv_goto (tgt := 125) hx hb dX7_takeTurns_121 (by decide) ?_
                refine lv_istore_n (lv' := [(2, .int 1), (5, .int r10), (4, .int r8), (3, .int r6), (1, .int l2_1), (0, .ref (G.2.2.1 85))]) hx hb dX7_takeTurns_125 rfl hl (by decide) rfl (fun ls hl => ?_)
                refine lv_iload_n hx hb dX7_takeTurns_126 rfl (lv_at hl 4 rfl) ?_
                refine lv_iload_n hx hb dX7_takeTurns_127 rfl (lv_at hl 0 rfl) ?_
                refine lv_if_eq (tgt := 138) hx hb dX7_takeTurns_128 (by decide) (fun c27 => absurd c27 (by decide)) (fun _ => ?_)
                refine lv_iconst (v := 1) hx hb dX7_takeTurns_131 (by decide) ?_
                refine lv_iload hx hb dX7_takeTurns_132 (lv_at hl 2 rfl) ?_
                refine lv_ishl hx hb dX7_takeTurns_134 ?_
                refine lv_goto (tgt := 139) hx hb dX7_takeTurns_135 (by decide) ?_
                refine lv_ior hx hb dX7_takeTurns_139 ?_
                refine lv_topi (fun x28 ex28 => ?_)
                have h := g_nm ex28 h
                refine lv_istore_n (lv' := [(1, .int x28), (2, .int 1), (5, .int r10), (4, .int r8), (3, .int r6), (0, .ref (G.2.2.1 85))]) hx hb dX7_takeTurns_140 rfl hl (by decide) rfl (fun ls hl => ?_)
                refine lv_goto (tgt := 9) hx hb dX7_takeTurns_141 (by decide) ?_
                exact ihL2 _ _ _ _ _ _ h hP hS (lv_sub hl [1, 0, 5] rfl)
          · have h := g_ift c13 h
            refine lv_bipush (v := 6) hx hb dX7_takeTurns_71 (by decide) ?_
            refine lv_goto (tgt := 78) hx hb dX7_takeTurns_73 (by decide) ?_
            refine lv_ishl hx hb dX7_takeTurns_78 ?_
            obtain ⟨i29, h⟩ := g_ix h
            refine g_iast hx hb hE hP hS (by decide) rfl (by decide) i29 dX7_takeTurns_79 (fun H locs σ30 eσ30 hP hS => ?_)
            have h := g_nm eσ30 h
            refine lv_aload_n hx hb dX7_takeTurns_80 rfl (lv_at hl 5 rfl) ?_
            refine lv_dup hx hb dX7_takeTurns_81 rfl ?_
            refine g_get hx hb ht hown hE hP (by decide) gE_85 uX7 rfl 7 (by decide) m_291 rfl rfl dX7_takeTurns_82 ?_
            refine lv_iconst (v := 1) hx hb dX7_takeTurns_85 (by decide) ?_
            refine lv_iadd hx hb dX7_takeTurns_86 ?_
            refine g_put hx hb ht hown hE hP hS (by decide) gE_85 uX7 tyX7_ok nmX7 rfl 7 (by decide) m_291 rfl rfl rfl rfl rfl (Nat.le_of_ble_eq_true rfl) rfl dX7_takeTurns_87 (fun H locs σ31 eσ31 hP hS => ?_)
            have h := g_nm eσ31 h
            refine lv_aload_n hx hb dX7_takeTurns_90 rfl (lv_at hl 5 rfl) ?_
            refine g_get hx hb ht hown hE hP (by decide) gE_85 uX7 rfl 0 (by decide) m_284 rfl rfl dX7_takeTurns_91 ?_
            refine g_get hx hb ht hown hE hP (by decide) gE_1 uX0 rfl 2 (by decide) m_252 rfl rfl dX7_takeTurns_94 ?_
            refine lv_iload hx hb dX7_takeTurns_97 (lv_at hl 1 rfl) ?_
            obtain ⟨r33, σ32, hcr33, h⟩ := g_bd h
            refine g_callV (As := [.int r8]) (n := 1) hx hb hml hown ht (c_X1_has l G _ _ hcr33) m_525 m_437 m_438 m_35 m_439 (by decide +kernel) (by decide) gE_17 rfl hE hP hS (fun _ h => h) (fun _ _ h => h) rfl hl.1 rfl (Nat.le_of_ble_eq_true rfl) dX7_takeTurns_99 ⟨by decide, by decide⟩ ⟨Nat.zero_le _, Nat.zero_le _⟩ (fun H locs hP hS => ?_)
            refine lv_if_eq (tgt := 124) hx hb dX7_takeTurns_102 (by decide) (fun c34 => ?_) (fun c34 => ?_)
            · have h := g_ift c34 h
              refine lv_iconst (v := 0) hx hb dX7_takeTurns_124 (by decide) ?_
              refine lv_istore_n (lv' := [(2, .int 0), (5, .int r10), (4, .int r8), (3, .int r6), (1, .int l2_1), (0, .ref (G.2.2.1 85))]) hx hb dX7_takeTurns_125 rfl hl (by decide) rfl (fun ls hl => ?_)
              refine lv_iload_n hx hb dX7_takeTurns_126 rfl (lv_at hl 4 rfl) ?_
              refine lv_iload_n hx hb dX7_takeTurns_127 rfl (lv_at hl 0 rfl) ?_
              refine lv_if_eq (tgt := 138) hx hb dX7_takeTurns_128 (by decide) (fun _ => ?_) (fun c35 => absurd (by decide) c35)
              refine lv_iconst (v := 0) hx hb dX7_takeTurns_138 (by decide) ?_
              refine lv_ior hx hb dX7_takeTurns_139 ?_
              refine lv_topi (fun x36 ex36 => ?_)
              have h := g_nm ex36 h
              refine lv_istore_n (lv' := [(1, .int x36), (2, .int 0), (5, .int r10), (4, .int r8), (3, .int r6), (0, .ref (G.2.2.1 85))]) hx hb dX7_takeTurns_140 rfl hl (by decide) rfl (fun ls hl => ?_)
              refine lv_goto (tgt := 9) hx hb dX7_takeTurns_141 (by decide) ?_
              exact ihL2 _ _ _ _ _ _ h hP hS (lv_sub hl [1, 0, 5] rfl)
            · have h := g_iff c34 h
              refine lv_aload_n hx hb dX7_takeTurns_105 rfl (lv_at hl 5 rfl) ?_
              refine g_get hx hb ht hown hE hP (by decide) gE_85 uX7 rfl 0 (by decide) m_284 rfl rfl dX7_takeTurns_106 ?_
              refine g_get hx hb ht hown hE hP (by decide) gE_1 uX0 rfl 2 (by decide) m_252 rfl rfl dX7_takeTurns_109 ?_
              refine lv_iload hx hb dX7_takeTurns_112 (lv_at hl 1 rfl) ?_
              obtain ⟨r38, σ37, hcr38, h⟩ := g_bd h
              refine g_callV (As := [.int r8]) (n := 1) hx hb hml hown ht (c_X1_isDoubted l G _ _ hcr38) m_562 m_441 m_442 m_35 m_443 (by decide +kernel) (by decide) gE_17 rfl hE hP hS (fun _ h => h) (fun _ _ h => h) rfl hl.1 rfl (Nat.le_of_ble_eq_true rfl) dX7_takeTurns_114 ⟨by decide, by decide⟩ ⟨Nat.zero_le _, Nat.zero_le _⟩ (fun H locs hP hS => ?_)
              refine lv_if_eq (tgt := 124) hx hb dX7_takeTurns_117 (by decide) (fun c39 => ?_) (fun c39 => ?_)
              · have h := g_ift c39 h
                refine lv_iconst (v := 0) hx hb dX7_takeTurns_124 (by decide) ?_
                refine lv_istore_n (lv' := [(2, .int 0), (5, .int r10), (4, .int r8), (3, .int r6), (1, .int l2_1), (0, .ref (G.2.2.1 85))]) hx hb dX7_takeTurns_125 rfl hl (by decide) rfl (fun ls hl => ?_)
                refine lv_iload_n hx hb dX7_takeTurns_126 rfl (lv_at hl 4 rfl) ?_
                refine lv_iload_n hx hb dX7_takeTurns_127 rfl (lv_at hl 0 rfl) ?_
                refine lv_if_eq (tgt := 138) hx hb dX7_takeTurns_128 (by decide) (fun _ => ?_) (fun c40 => absurd (by decide) c40)
                refine lv_iconst (v := 0) hx hb dX7_takeTurns_138 (by decide) ?_
                refine lv_ior hx hb dX7_takeTurns_139 ?_
                refine lv_topi (fun x41 ex41 => ?_)
                have h := g_nm ex41 h
                refine lv_istore_n (lv' := [(1, .int x41), (2, .int 0), (5, .int r10), (4, .int r8), (3, .int r6), (0, .ref (G.2.2.1 85))]) hx hb dX7_takeTurns_140 rfl hl (by decide) rfl (fun ls hl => ?_)
                refine lv_goto (tgt := 9) hx hb dX7_takeTurns_141 (by decide) ?_
                exact ihL2 _ _ _ _ _ _ h hP hS (lv_sub hl [1, 0, 5] rfl)
              · have h := g_iff c39 h
                refine lv_iconst (v := 1) hx hb dX7_takeTurns_120 (by decide) ?_
                refine lv_goto (tgt := 125) hx hb dX7_takeTurns_121 (by decide) ?_
                refine lv_istore_n (lv' := [(2, .int 1), (5, .int r10), (4, .int r8), (3, .int r6), (1, .int l2_1), (0, .ref (G.2.2.1 85))]) hx hb dX7_takeTurns_125 rfl hl (by decide) rfl (fun ls hl => ?_)
                refine lv_iload_n hx hb dX7_takeTurns_126 rfl (lv_at hl 4 rfl) ?_
                refine lv_iload_n hx hb dX7_takeTurns_127 rfl (lv_at hl 0 rfl) ?_
                refine lv_if_eq (tgt := 138) hx hb dX7_takeTurns_128 (by decide) (fun c42 => absurd c42 (by decide)) (fun _ => ?_)
                refine lv_iconst (v := 1) hx hb dX7_takeTurns_131 (by decide) ?_
                refine lv_iload hx hb dX7_takeTurns_132 (lv_at hl 2 rfl) ?_
                refine lv_ishl hx hb dX7_takeTurns_134 ?_
                refine lv_goto (tgt := 139) hx hb dX7_takeTurns_135 (by decide) ?_
                refine lv_ior hx hb dX7_takeTurns_139 ?_
                refine lv_topi (fun x43 ex43 => ?_)
                have h := g_nm ex43 h
                refine lv_istore_n (lv' := [(1, .int x43), (2, .int 1), (5, .int r10), (4, .int r8), (3, .int r6), (0, .ref (G.2.2.1 85))]) hx hb dX7_takeTurns_140 rfl hl (by decide) rfl (fun ls hl => ?_)
                refine lv_goto (tgt := 9) hx hb dX7_takeTurns_141 (by decide) ?_
                exact ihL2 _ _ _ _ _ _ h hP hS (lv_sub hl [1, 0, 5] rfl)
  refine LPL2 _ (fun z44 z45 σ46 H locs ls h hP hS hl => ?_) gFu _ _ _ _ _ _ h hP hS (lv_sub hl [0, 1, 2] rfl)
  exact g_vret (v := 0) (r := r) hx hb hr hlk hE hP hS h dX7_takeTurns_144

def L1_X7_setUpTo (a1 : Int32) : Nat → Int32 → Int32 → gSt → (Int32 → Int32 → gSt → gO) → gO
  | 0, _, _, _, _ => none
  | nL1 + 1, l1_3, l1_2, σL1, kL1 =>
    if (σL1 85 7) ≤ l1_3 then (kL1 l1_3 l1_2 σL1) else (gIx 9 l1_3 (gNm ((l1_2 ||| (σL1 90 l1_3.toNatClampNeg)) : Int32) (fun x4 => gIx 9 l1_3 (if (σL1 89 l1_3.toNatClampNeg) = a1 then (some (x4, σL1)) else (gNm (l1_3 + 1 : Int32) (fun x7 => L1_X7_setUpTo a1 nL1 x7 x4 σL1 kL1))))))
def M_X7_setUpTo (a1 : Int32) (σ : gSt) : gO :=
  L1_X7_setUpTo a1 gFu 0 0 σ (fun z8 z9 σ10 => some (z9, σ10))
set_option maxHeartbeats 4000000 in
set_option maxRecDepth 100000 in
theorem c_X7_setUpTo (l : Launch) (G : gPar) (a1 : Int32) (σ : gSt) {r : Int32} {σ' : gSt} (h : M_X7_setUpTo a1 σ = some (r, σ')) : gC l G yX7_setUpTo cX7_setUpTo 4 (some .int) 0 0 [.ref (G.2.2.1 85), .int a1] σ r σ' := by
  refine gC_of (by decide) (Nat.le_of_ble_eq_true rfl) ?_
  intro p e s m below meth c hx hb hr ht hown hlk hml hE hP ls hl
  have hS : va_S (gA G) s.heap s.heap [] := va_S.rf
  have hl : lv_has ls 4 [(0, .ref (G.2.2.1 85)), (1, .int a1)] := hl
  unfold M_X7_setUpTo at h
  refine lv_iconst (v := 0) hx hb dX7_setUpTo_0 (by decide) ?_
  refine lv_istore_n (lv' := [(2, .int 0), (0, .ref (G.2.2.1 85)), (1, .int a1)]) hx hb dX7_setUpTo_1 rfl hl (by decide) rfl (fun ls hl => ?_)
  refine lv_iconst (v := 0) hx hb dX7_setUpTo_2 (by decide) ?_
  refine lv_istore_n (lv' := [(3, .int 0), (2, .int 0), (0, .ref (G.2.2.1 85)), (1, .int a1)]) hx hb dX7_setUpTo_3 rfl hl (by decide) rfl (fun ls hl => ?_)
  have LPL1 : ∀ (kL1 : Int32 → Int32 → gSt → gO), (∀ (l1_3 l1_2 : Int32) (σL1 : gSt) (H : Heap) (locs : List Loc) (ls : Array Slot), kL1 l1_3 l1_2 σL1 = some (r, σ') → gW G σL1 H → va_S (gA G) s.heap H locs → lv_has ls 4 [(3, .int l1_3), (2, .int l1_2), (0, .ref (G.2.2.1 85)), (1, .int a1)] → W p l e (gRm 0 0) s m ([.ref (G.2.2.1 85), .int a1].toArray) below meth c H locs 0 0 (MQ below (gQ G r σ') ([.ref (G.2.2.1 85), .int a1].toArray) s 0 0 (gA G)) (F0 m 39 ls [])) → ∀ (nL1 : Nat) (l1_3 l1_2 : Int32) (σL1 : gSt) (H : Heap) (locs : List Loc) (ls : Array Slot), L1_X7_setUpTo a1 nL1 l1_3 l1_2 σL1 kL1 = some (r, σ') → gW G σL1 H → va_S (gA G) s.heap H locs → lv_has ls 4 [(3, .int l1_3), (2, .int l1_2), (0, .ref (G.2.2.1 85)), (1, .int a1)] → W p l e (gRm 0 0) s m ([.ref (G.2.2.1 85), .int a1].toArray) below meth c H locs 0 0 (MQ below (gQ G r σ') ([.ref (G.2.2.1 85), .int a1].toArray) s 0 0 (gA G)) (F0 m 4 ls []) := by
    intro kL1 hKL1 nL1
    induction nL1 with
    | zero =>
      intro l1_3 l1_2 σL1 H locs ls h
      cases h
    | succ nL1 ihL1 =>
      intro l1_3 l1_2 σL1 H locs ls h hP hS hl
      rw [L1_X7_setUpTo] at h
      refine lv_iload_n hx hb dX7_setUpTo_4 rfl (lv_at hl 0 rfl) ?_
      refine lv_aload_n hx hb dX7_setUpTo_5 rfl (lv_at hl 2 rfl) ?_
      refine g_get hx hb ht hown hE hP (by decide) gE_85 uX7 rfl 7 (by decide) m_291 rfl rfl dX7_setUpTo_6 ?_
      refine lv_icmp_ge (tgt := 39) hx hb dX7_setUpTo_9 (by decide) (fun c2 => ?_) (fun c2 => ?_)
      · have h := g_ift c2 h
        exact hKL1 _ _ _ _ _ _ h hP hS (lv_sub hl [0, 1, 2, 3] rfl)
      · have h := g_iff c2 h
        refine lv_iload_n hx hb dX7_setUpTo_12 rfl (lv_at hl 1 rfl) ?_
        refine lv_aload_n hx hb dX7_setUpTo_13 rfl (lv_at hl 2 rfl) ?_
        refine g_get hx hb ht hown hE hP (by decide) gE_85 uX7 rfl 5 (by decide) m_289 rfl rfl dX7_setUpTo_14 ?_
        refine lv_iload_n hx hb dX7_setUpTo_17 rfl (lv_at hl 0 rfl) ?_
        obtain ⟨i3, h⟩ := g_ix h
        refine g_iald hx hb hE hP (by decide) rfl (by decide) i3 dX7_setUpTo_18 ?_
        refine lv_ior hx hb dX7_setUpTo_19 ?_
        refine lv_topi (fun x4 ex4 => ?_)
        have h := g_nm ex4 h
        refine lv_istore_n (lv' := [(2, .int x4), (3, .int l1_3), (0, .ref (G.2.2.1 85)), (1, .int a1)]) hx hb dX7_setUpTo_20 rfl hl (by decide) rfl (fun ls hl => ?_)
        refine lv_aload_n hx hb dX7_setUpTo_21 rfl (lv_at hl 2 rfl) ?_
        refine g_get hx hb ht hown hE hP (by decide) gE_85 uX7 rfl 4 (by decide) m_288 rfl rfl dX7_setUpTo_22 ?_
        refine lv_iload_n hx hb dX7_setUpTo_25 rfl (lv_at hl 1 rfl) ?_
        obtain ⟨i5, h⟩ := g_ix h
        refine g_iald hx hb hE hP (by decide) rfl (by decide) i5 dX7_setUpTo_26 ?_
        refine lv_iload_n hx hb dX7_setUpTo_27 rfl (lv_at hl 3 rfl) ?_
        refine lv_icmp_ne (tgt := 33) hx hb dX7_setUpTo_28 (by decide) (fun c6 => ?_) (fun c6 => ?_)
        · have h := g_iff c6 h
          obtain ⟨x7, ex7⟩ : ∃ y : Int32, y = l1_3 + 1 := ⟨_, rfl⟩
          have h := g_nm ex7 h
          refine lv_iinc (v := x7) (lv' := [(3, .int x7), (2, .int x4), (0, .ref (G.2.2.1 85)), (1, .int a1)]) hx hb dX7_setUpTo_33 hl (k := 1) rfl (by rw [ex7]; rfl) (by decide) rfl (fun ls hl => ?_)
          refine lv_goto (tgt := 4) hx hb dX7_setUpTo_36 (by decide) ?_
          exact ihL1 _ _ _ _ _ _ h hP hS (lv_sub hl [0, 1, 2, 3] rfl)
        · have h := g_ift c6 h
          refine lv_iload_n hx hb dX7_setUpTo_31 rfl (lv_at hl 0 rfl) ?_
          exact g_iret hx hb hr hlk hE hP hS h dX7_setUpTo_32
  refine LPL1 _ (fun z8 z9 σ10 H locs ls h hP hS hl => ?_) gFu _ _ _ _ _ _ h hP hS (lv_sub hl [0, 1, 2, 3] rfl)
  refine lv_iload_n hx hb dX7_setUpTo_39 rfl (lv_at hl 1 rfl) ?_
  exact g_iret hx hb hr hlk hE hP hS h dX7_setUpTo_40

def L1_X7_setWithout (a1 : Int32) : Nat → Int32 → Int32 → gSt → (Int32 → Int32 → gSt → gO) → gO
  | 0, _, _, _, _ => none
  | nL1 + 1, l1_3, l1_2, σL1, kL1 =>
    if (σL1 85 7) ≤ l1_3 then (kL1 l1_3 l1_2 σL1) else (gIx 9 l1_3 (if (σL1 89 l1_3.toNatClampNeg) = a1 then (gNm ((l1_2 ||| 0) : Int32) (fun x8 => gNm (l1_3 + 1 : Int32) (fun x9 => L1_X7_setWithout a1 nL1 x9 x8 σL1 kL1))) else (gIx 9 l1_3 (gNm ((l1_2 ||| (σL1 90 l1_3.toNatClampNeg)) : Int32) (fun x6 => gNm (l1_3 + 1 : Int32) (fun x7 => L1_X7_setWithout a1 nL1 x7 x6 σL1 kL1))))))
def M_X7_setWithout (a1 : Int32) (σ : gSt) : gO :=
  L1_X7_setWithout a1 gFu 0 0 σ (fun z10 z11 σ12 => some (z11, σ12))
set_option maxHeartbeats 4000000 in
set_option maxRecDepth 100000 in
theorem c_X7_setWithout (l : Launch) (G : gPar) (a1 : Int32) (σ : gSt) {r : Int32} {σ' : gSt} (h : M_X7_setWithout a1 σ = some (r, σ')) : gC l G yX7_setWithout cX7_setWithout 4 (some .int) 0 0 [.ref (G.2.2.1 85), .int a1] σ r σ' := by
  refine gC_of (by decide) (Nat.le_of_ble_eq_true rfl) ?_
  intro p e s m below meth c hx hb hr ht hown hlk hml hE hP ls hl
  have hS : va_S (gA G) s.heap s.heap [] := va_S.rf
  have hl : lv_has ls 4 [(0, .ref (G.2.2.1 85)), (1, .int a1)] := hl
  unfold M_X7_setWithout at h
  refine lv_iconst (v := 0) hx hb dX7_setWithout_0 (by decide) ?_
  refine lv_istore_n (lv' := [(2, .int 0), (0, .ref (G.2.2.1 85)), (1, .int a1)]) hx hb dX7_setWithout_1 rfl hl (by decide) rfl (fun ls hl => ?_)
  refine lv_iconst (v := 0) hx hb dX7_setWithout_2 (by decide) ?_
  refine lv_istore_n (lv' := [(3, .int 0), (2, .int 0), (0, .ref (G.2.2.1 85)), (1, .int a1)]) hx hb dX7_setWithout_3 rfl hl (by decide) rfl (fun ls hl => ?_)
  have LPL1 : ∀ (kL1 : Int32 → Int32 → gSt → gO), (∀ (l1_3 l1_2 : Int32) (σL1 : gSt) (H : Heap) (locs : List Loc) (ls : Array Slot), kL1 l1_3 l1_2 σL1 = some (r, σ') → gW G σL1 H → va_S (gA G) s.heap H locs → lv_has ls 4 [(3, .int l1_3), (2, .int l1_2), (0, .ref (G.2.2.1 85)), (1, .int a1)] → W p l e (gRm 0 0) s m ([.ref (G.2.2.1 85), .int a1].toArray) below meth c H locs 0 0 (MQ below (gQ G r σ') ([.ref (G.2.2.1 85), .int a1].toArray) s 0 0 (gA G)) (F0 m 41 ls [])) → ∀ (nL1 : Nat) (l1_3 l1_2 : Int32) (σL1 : gSt) (H : Heap) (locs : List Loc) (ls : Array Slot), L1_X7_setWithout a1 nL1 l1_3 l1_2 σL1 kL1 = some (r, σ') → gW G σL1 H → va_S (gA G) s.heap H locs → lv_has ls 4 [(3, .int l1_3), (2, .int l1_2), (0, .ref (G.2.2.1 85)), (1, .int a1)] → W p l e (gRm 0 0) s m ([.ref (G.2.2.1 85), .int a1].toArray) below meth c H locs 0 0 (MQ below (gQ G r σ') ([.ref (G.2.2.1 85), .int a1].toArray) s 0 0 (gA G)) (F0 m 4 ls []) := by
    intro kL1 hKL1 nL1
    induction nL1 with
    | zero =>
      intro l1_3 l1_2 σL1 H locs ls h
      cases h
    | succ nL1 ihL1 =>
      intro l1_3 l1_2 σL1 H locs ls h hP hS hl
      rw [L1_X7_setWithout] at h
      refine lv_iload_n hx hb dX7_setWithout_4 rfl (lv_at hl 0 rfl) ?_
      refine lv_aload_n hx hb dX7_setWithout_5 rfl (lv_at hl 2 rfl) ?_
      refine g_get hx hb ht hown hE hP (by decide) gE_85 uX7 rfl 7 (by decide) m_291 rfl rfl dX7_setWithout_6 ?_
      refine lv_icmp_ge (tgt := 41) hx hb dX7_setWithout_9 (by decide) (fun c2 => ?_) (fun c2 => ?_)
      · have h := g_ift c2 h
        exact hKL1 _ _ _ _ _ _ h hP hS (lv_sub hl [0, 1, 2, 3] rfl)
      · have h := g_iff c2 h
        refine lv_iload_n hx hb dX7_setWithout_12 rfl (lv_at hl 1 rfl) ?_
        refine lv_aload_n hx hb dX7_setWithout_13 rfl (lv_at hl 2 rfl) ?_
        refine g_get hx hb ht hown hE hP (by decide) gE_85 uX7 rfl 4 (by decide) m_288 rfl rfl dX7_setWithout_14 ?_
        refine lv_iload_n hx hb dX7_setWithout_17 rfl (lv_at hl 0 rfl) ?_
        obtain ⟨i3, h⟩ := g_ix h
        refine g_iald hx hb hE hP (by decide) rfl (by decide) i3 dX7_setWithout_18 ?_
        refine lv_iload_n hx hb dX7_setWithout_19 rfl (lv_at hl 3 rfl) ?_
        refine lv_icmp_ne (tgt := 27) hx hb dX7_setWithout_20 (by decide) (fun c4 => ?_) (fun c4 => ?_)
        · have h := g_iff c4 h
          refine lv_aload_n hx hb dX7_setWithout_27 rfl (lv_at hl 2 rfl) ?_
          refine g_get hx hb ht hown hE hP (by decide) gE_85 uX7 rfl 5 (by decide) m_289 rfl rfl dX7_setWithout_28 ?_
          refine lv_iload_n hx hb dX7_setWithout_31 rfl (lv_at hl 0 rfl) ?_
          obtain ⟨i5, h⟩ := g_ix h
          refine g_iald hx hb hE hP (by decide) rfl (by decide) i5 dX7_setWithout_32 ?_
          refine lv_ior hx hb dX7_setWithout_33 ?_
          refine lv_topi (fun x6 ex6 => ?_)
          have h := g_nm ex6 h
          refine lv_istore_n (lv' := [(2, .int x6), (3, .int l1_3), (0, .ref (G.2.2.1 85)), (1, .int a1)]) hx hb dX7_setWithout_34 rfl hl (by decide) rfl (fun ls hl => ?_)
          obtain ⟨x7, ex7⟩ : ∃ y : Int32, y = l1_3 + 1 := ⟨_, rfl⟩
          have h := g_nm ex7 h
          refine lv_iinc (v := x7) (lv' := [(3, .int x7), (2, .int x6), (0, .ref (G.2.2.1 85)), (1, .int a1)]) hx hb dX7_setWithout_35 hl (k := 1) rfl (by rw [ex7]; rfl) (by decide) rfl (fun ls hl => ?_)
          refine lv_goto (tgt := 4) hx hb dX7_setWithout_38 (by decide) ?_
          exact ihL1 _ _ _ _ _ _ h hP hS (lv_sub hl [0, 1, 2, 3] rfl)
        · have h := g_ift c4 h
          refine lv_iconst (v := 0) hx hb dX7_setWithout_23 (by decide) ?_
          refine lv_goto (tgt := 33) hx hb dX7_setWithout_24 (by decide) ?_
          refine lv_ior hx hb dX7_setWithout_33 ?_
          refine lv_topi (fun x8 ex8 => ?_)
          have h := g_nm ex8 h
          refine lv_istore_n (lv' := [(2, .int x8), (3, .int l1_3), (0, .ref (G.2.2.1 85)), (1, .int a1)]) hx hb dX7_setWithout_34 rfl hl (by decide) rfl (fun ls hl => ?_)
          obtain ⟨x9, ex9⟩ : ∃ y : Int32, y = l1_3 + 1 := ⟨_, rfl⟩
          have h := g_nm ex9 h
          refine lv_iinc (v := x9) (lv' := [(3, .int x9), (2, .int x8), (0, .ref (G.2.2.1 85)), (1, .int a1)]) hx hb dX7_setWithout_35 hl (k := 1) rfl (by rw [ex9]; rfl) (by decide) rfl (fun ls hl => ?_)
          refine lv_goto (tgt := 4) hx hb dX7_setWithout_38 (by decide) ?_
          exact ihL1 _ _ _ _ _ _ h hP hS (lv_sub hl [0, 1, 2, 3] rfl)
  refine LPL1 _ (fun z10 z11 σ12 H locs ls h hP hS hl => ?_) gFu _ _ _ _ _ _ h hP hS (lv_sub hl [0, 1, 2, 3] rfl)
  refine lv_iload_n hx hb dX7_setWithout_41 rfl (lv_at hl 1 rfl) ?_
  exact g_iret hx hb hr hlk hE hP hS h dX7_setWithout_42

def M_X7_couldBe (a1 a2 a3 : Int32) (σ : gSt) : gO :=
  gBd (M_X7_prepare a1 a2 a3 σ) (fun r2 σ1 => gBd (M_X7_takeTurns σ1) (fun r4 σ3 => gBd (M_X7_setUpTo (-2) σ3) (fun r6 σ5 => some (r6, σ5))))
set_option maxHeartbeats 4000000 in
set_option maxRecDepth 100000 in
theorem c_X7_couldBe (l : Launch) (G : gPar) (a1 a2 a3 : Int32) (σ : gSt) {r : Int32} {σ' : gSt} (h : M_X7_couldBe a1 a2 a3 σ = some (r, σ')) : gC l G yX7_couldBe cX7_couldBe 4 (some .int) 4 98 [.ref (G.2.2.1 85), .int a1, .int a2, .int a3] σ r σ' := by
  refine gC_of (by decide) (Nat.le_of_ble_eq_true rfl) ?_
  intro p e s m below meth c hx hb hr ht hown hlk hml hE hP ls hl
  have hS : va_S (gA G) s.heap s.heap [] := va_S.rf
  have hl : lv_has ls 4 [(0, .ref (G.2.2.1 85)), (1, .int a1), (2, .int a2), (3, .int a3)] := hl
  unfold M_X7_couldBe at h
  refine lv_aload_n hx hb dX7_couldBe_0 rfl (lv_at hl 0 rfl) ?_
  refine lv_iload_n hx hb dX7_couldBe_1 rfl (lv_at hl 1 rfl) ?_
  refine lv_iload_n hx hb dX7_couldBe_2 rfl (lv_at hl 2 rfl) ?_
  refine lv_iload_n hx hb dX7_couldBe_3 rfl (lv_at hl 3 rfl) ?_
  obtain ⟨r2, σ1, hcr2, h⟩ := g_bd h
  refine g_callVv (As := [.int a1, .int a2, .int a3]) (n := 3) hx hb hml hown ht (c_X7_prepare l G _ _ _ _ hcr2) m_484 m_486 m_2 m_39 m_487 (by decide +kernel) (by decide) gE_85 rfl hE hP hS (fun _ h => h) (fun _ _ h => h) rfl hl.1 rfl (Nat.le_of_ble_eq_true rfl) dX7_couldBe_4 ⟨by decide, by decide⟩ ⟨Nat.zero_le _, Nat.zero_le _⟩ (fun H locs hP hS => ?_)
  refine lv_aload_n hx hb dX7_couldBe_7 rfl (lv_at hl 0 rfl) ?_
  obtain ⟨r4, σ3, hcr4, h⟩ := g_bd h
  refine g_callVv (As := []) (n := 0) hx hb hml hown ht (c_X7_takeTurns l G _ hcr4) m_558 m_560 m_10 m_39 m_561 (by decide +kernel) (by decide) gE_85 rfl hE hP hS (fun _ h => h) (fun _ _ h => h) rfl hl.1 rfl (Nat.le_of_ble_eq_true rfl) dX7_couldBe_8 ⟨by decide, by decide⟩ ⟨Nat.zero_le _, Nat.zero_le _⟩ (fun H locs hP hS => ?_)
  refine lv_aload_n hx hb dX7_couldBe_11 rfl (lv_at hl 0 rfl) ?_
  refine lv_bipush (v := (-2)) hx hb dX7_couldBe_12 (by decide) ?_
  obtain ⟨r6, σ5, hcr6, h⟩ := g_bd h
  refine g_callV (As := [.int (-2)]) (n := 1) hx hb hml hown ht (c_X7_setUpTo l G _ _ hcr6) m_563 m_565 m_11 m_39 m_566 (by decide +kernel) (by decide) gE_85 rfl hE hP hS (fun _ h => h) (fun _ _ h => h) rfl hl.1 rfl (Nat.le_of_ble_eq_true rfl) dX7_couldBe_14 ⟨by decide, by decide⟩ ⟨Nat.zero_le _, Nat.zero_le _⟩ (fun H locs hP hS => ?_)
  exact g_iret hx hb hr hlk hE hP hS h dX7_couldBe_17

def M_J6_bitCount_0f7a4 (a1 : Int32) (σ : gSt) : gO :=
  gNm ((a1 - (((a1.toUInt32 >>> ((1 : Int32).toUInt32 &&& Int32.toUInt32 31)).toInt32) &&& 1431655765)) : Int32) (fun x1 => gNm (((x1 &&& 858993459) + (((x1.toUInt32 >>> ((2 : Int32).toUInt32 &&& Int32.toUInt32 31)).toInt32) &&& 858993459)) : Int32) (fun x2 => gNm (((x2 + ((x2.toUInt32 >>> ((4 : Int32).toUInt32 &&& Int32.toUInt32 31)).toInt32)) &&& 252645135) : Int32) (fun x3 => gNm ((x3 + ((x3.toUInt32 >>> ((8 : Int32).toUInt32 &&& Int32.toUInt32 31)).toInt32)) : Int32) (fun x4 => gNm ((x4 + ((x4.toUInt32 >>> ((16 : Int32).toUInt32 &&& Int32.toUInt32 31)).toInt32)) : Int32) (fun x5 => some ((x5 &&& 63), σ))))))
set_option maxHeartbeats 4000000 in
set_option maxRecDepth 100000 in
theorem c_J6_bitCount_0f7a4 (l : Launch) (G : gPar) (a1 : Int32) (σ : gSt) {r : Int32} {σ' : gSt} (h : M_J6_bitCount_0f7a4 a1 σ = some (r, σ')) : gC l G yJ6_bitCount_0f7a4 cJ6_bitCount_0f7a4 1 (some .int) 0 0 [.int a1] σ r σ' := by
  refine gC_of (by decide) (Nat.le_of_ble_eq_true rfl) ?_
  intro p e s m below meth c hx hb hr ht hown hlk hml hE hP ls hl
  have hS : va_S (gA G) s.heap s.heap [] := va_S.rf
  have hl : lv_has ls 1 [(0, .int a1)] := hl
  unfold M_J6_bitCount_0f7a4 at h
  refine lv_iload_n hx hb dJ6_bitCount_0f7a4_0 rfl (lv_at hl 0 rfl) ?_
  refine lv_iload_n hx hb dJ6_bitCount_0f7a4_1 rfl (lv_at hl 0 rfl) ?_
  refine lv_iconst (v := 1) hx hb dJ6_bitCount_0f7a4_2 (by decide) ?_
  refine lv_iushr (v := (a1.toUInt32 >>> ((1 : Int32).toUInt32 &&& Int32.toUInt32 31)).toInt32) hx hb dJ6_bitCount_0f7a4_3 rfl ?_
  refine lv_ldcw hx hb hown (ht _ m_583) dJ6_bitCount_0f7a4_4 ?_
  refine lv_iand hx hb dJ6_bitCount_0f7a4_7 ?_
  refine lv_isub hx hb dJ6_bitCount_0f7a4_8 ?_
  refine lv_topi (fun x1 ex1 => ?_)
  have h := g_nm ex1 h
  refine lv_istore_n (lv' := [(0, .int x1)]) hx hb dJ6_bitCount_0f7a4_9 rfl hl (by decide) rfl (fun ls hl => ?_)
  refine lv_iload_n hx hb dJ6_bitCount_0f7a4_10 rfl (lv_at hl 0 rfl) ?_
  refine lv_ldcw hx hb hown (ht _ m_584) dJ6_bitCount_0f7a4_11 ?_
  refine lv_iand hx hb dJ6_bitCount_0f7a4_14 ?_
  refine lv_iload_n hx hb dJ6_bitCount_0f7a4_15 rfl (lv_at hl 0 rfl) ?_
  refine lv_iconst (v := 2) hx hb dJ6_bitCount_0f7a4_16 (by decide) ?_
  refine lv_iushr (v := (x1.toUInt32 >>> ((2 : Int32).toUInt32 &&& Int32.toUInt32 31)).toInt32) hx hb dJ6_bitCount_0f7a4_17 rfl ?_
  refine lv_ldcw hx hb hown (ht _ m_584) dJ6_bitCount_0f7a4_18 ?_
  refine lv_iand hx hb dJ6_bitCount_0f7a4_21 ?_
  refine lv_iadd hx hb dJ6_bitCount_0f7a4_22 ?_
  refine lv_topi (fun x2 ex2 => ?_)
  have h := g_nm ex2 h
  refine lv_istore_n (lv' := [(0, .int x2)]) hx hb dJ6_bitCount_0f7a4_23 rfl hl (by decide) rfl (fun ls hl => ?_)
  refine lv_iload_n hx hb dJ6_bitCount_0f7a4_24 rfl (lv_at hl 0 rfl) ?_
  refine lv_iload_n hx hb dJ6_bitCount_0f7a4_25 rfl (lv_at hl 0 rfl) ?_
  refine lv_iconst (v := 4) hx hb dJ6_bitCount_0f7a4_26 (by decide) ?_
  refine lv_iushr (v := (x2.toUInt32 >>> ((4 : Int32).toUInt32 &&& Int32.toUInt32 31)).toInt32) hx hb dJ6_bitCount_0f7a4_27 rfl ?_
  refine lv_iadd hx hb dJ6_bitCount_0f7a4_28 ?_
  refine lv_ldcw hx hb hown (ht _ m_585) dJ6_bitCount_0f7a4_29 ?_
  refine lv_iand hx hb dJ6_bitCount_0f7a4_32 ?_
  refine lv_topi (fun x3 ex3 => ?_)
  have h := g_nm ex3 h
  refine lv_istore_n (lv' := [(0, .int x3)]) hx hb dJ6_bitCount_0f7a4_33 rfl hl (by decide) rfl (fun ls hl => ?_)
  refine lv_iload_n hx hb dJ6_bitCount_0f7a4_34 rfl (lv_at hl 0 rfl) ?_
  refine lv_iload_n hx hb dJ6_bitCount_0f7a4_35 rfl (lv_at hl 0 rfl) ?_
  refine lv_bipush (v := 8) hx hb dJ6_bitCount_0f7a4_36 (by decide) ?_
  refine lv_iushr (v := (x3.toUInt32 >>> ((8 : Int32).toUInt32 &&& Int32.toUInt32 31)).toInt32) hx hb dJ6_bitCount_0f7a4_38 rfl ?_
  refine lv_iadd hx hb dJ6_bitCount_0f7a4_39 ?_
  refine lv_topi (fun x4 ex4 => ?_)
  have h := g_nm ex4 h
  refine lv_istore_n (lv' := [(0, .int x4)]) hx hb dJ6_bitCount_0f7a4_40 rfl hl (by decide) rfl (fun ls hl => ?_)
  refine lv_iload_n hx hb dJ6_bitCount_0f7a4_41 rfl (lv_at hl 0 rfl) ?_
  refine lv_iload_n hx hb dJ6_bitCount_0f7a4_42 rfl (lv_at hl 0 rfl) ?_
  refine lv_bipush (v := 16) hx hb dJ6_bitCount_0f7a4_43 (by decide) ?_
  refine lv_iushr (v := (x4.toUInt32 >>> ((16 : Int32).toUInt32 &&& Int32.toUInt32 31)).toInt32) hx hb dJ6_bitCount_0f7a4_45 rfl ?_
  refine lv_iadd hx hb dJ6_bitCount_0f7a4_46 ?_
  refine lv_topi (fun x5 ex5 => ?_)
  have h := g_nm ex5 h
  refine lv_istore_n (lv' := [(0, .int x5)]) hx hb dJ6_bitCount_0f7a4_47 rfl hl (by decide) rfl (fun ls hl => ?_)
  refine lv_iload_n hx hb dJ6_bitCount_0f7a4_48 rfl (lv_at hl 0 rfl) ?_
  refine lv_bipush (v := 63) hx hb dJ6_bitCount_0f7a4_49 (by decide) ?_
  refine lv_iand hx hb dJ6_bitCount_0f7a4_51 ?_
  exact g_iret hx hb hr hlk hE hP hS h dJ6_bitCount_0f7a4_52

def M_X7_mostLeftBy (a1 : Int32) (σ : gSt) : gO :=
  gBd (M_X7_setUpTo a1 σ) (fun r2 σ1 => gBd (M_J6_bitCount_0f7a4 r2 σ1) (fun r4 σ3 => gBd (M_X7_setWithout a1 σ3) (fun r6 σ5 => gBd (M_J6_bitCount_0f7a4 r6 σ5) (fun r8 σ7 => some ((if r4 < r8 then r8 else r4), σ7)))))
set_option maxHeartbeats 4000000 in
set_option maxRecDepth 100000 in
theorem c_X7_mostLeftBy (l : Launch) (G : gPar) (a1 : Int32) (σ : gSt) {r : Int32} {σ' : gSt} (h : M_X7_mostLeftBy a1 σ = some (r, σ')) : gC l G yX7_mostLeftBy cX7_mostLeftBy 2 (some .int) 1 23 [.ref (G.2.2.1 85), .int a1] σ r σ' := by
  refine gC_of (by decide) (Nat.le_of_ble_eq_true rfl) ?_
  intro p e s m below meth c hx hb hr ht hown hlk hml hE hP ls hl
  have hS : va_S (gA G) s.heap s.heap [] := va_S.rf
  have hl : lv_has ls 2 [(0, .ref (G.2.2.1 85)), (1, .int a1)] := hl
  unfold M_X7_mostLeftBy at h
  refine lv_aload_n hx hb dX7_mostLeftBy_0 rfl (lv_at hl 0 rfl) ?_
  refine lv_iload_n hx hb dX7_mostLeftBy_1 rfl (lv_at hl 1 rfl) ?_
  obtain ⟨r2, σ1, hcr2, h⟩ := g_bd h
  refine g_callV (As := [.int a1]) (n := 1) hx hb hml hown ht (c_X7_setUpTo l G _ _ hcr2) m_563 m_565 m_11 m_39 m_566 (by decide +kernel) (by decide) gE_85 rfl hE hP hS (fun _ h => h) (fun _ _ h => h) rfl hl.1 rfl (Nat.le_of_ble_eq_true rfl) dX7_mostLeftBy_2 ⟨by decide, by decide⟩ ⟨Nat.zero_le _, Nat.zero_le _⟩ (fun H locs hP hS => ?_)
  obtain ⟨r4, σ3, hcr4, h⟩ := g_bd h
  refine g_callS (As := [.int r2]) (n := 1) hx hb hml hown ht (c_J6_bitCount_0f7a4 l G _ _ hcr4) m_580 m_581 m_42 m_582 (by decide +kernel) hE hP hS (fun _ h => h) (fun _ _ h => h) rfl hl.1 rfl (Nat.le_of_ble_eq_true rfl) dX7_mostLeftBy_5 ⟨by decide, by decide⟩ ⟨Nat.zero_le _, Nat.zero_le _⟩ (fun H locs hP hS => ?_)
  refine lv_aload_n hx hb dX7_mostLeftBy_8 rfl (lv_at hl 0 rfl) ?_
  refine lv_iload_n hx hb dX7_mostLeftBy_9 rfl (lv_at hl 1 rfl) ?_
  obtain ⟨r6, σ5, hcr6, h⟩ := g_bd h
  refine g_callV (As := [.int a1]) (n := 1) hx hb hml hown ht (c_X7_setWithout l G _ _ hcr6) m_586 m_588 m_13 m_39 m_589 (by decide +kernel) (by decide) gE_85 rfl hE hP hS (fun _ h => h) (fun _ _ h => h) rfl hl.1 rfl (Nat.le_of_ble_eq_true rfl) dX7_mostLeftBy_10 ⟨by decide, by decide⟩ ⟨Nat.zero_le _, Nat.zero_le _⟩ (fun H locs hP hS => ?_)
  obtain ⟨r8, σ7, hcr8, h⟩ := g_bd h
  refine g_callS (As := [.int r6]) (n := 1) hx hb hml hown ht (c_J6_bitCount_0f7a4 l G _ _ hcr8) m_580 m_581 m_42 m_582 (by decide +kernel) hE hP hS (fun _ h => h) (fun _ _ h => h) rfl hl.1 rfl (Nat.le_of_ble_eq_true rfl) dX7_mostLeftBy_13 ⟨by decide, by decide⟩ ⟨Nat.zero_le _, Nat.zero_le _⟩ (fun H locs hP hS => ?_)
  refine g_max hx hb (hml.trans hl.1.symm) hown ht m_590 m_591 m_43 m_592 (Nat.le_of_ble_eq_true rfl) (Nat.le_of_ble_eq_true rfl) ⟨Nat.zero_le _, Nat.zero_le _⟩ dX7_mostLeftBy_16 ?_
  exact g_iret hx hb hr hlk hE hP hS h dX7_mostLeftBy_19

def L5_X7_bestQuestion (a1 a2 a3 : Int32) : Nat → Int32 → Int32 → Int32 → gSt → (Int32 → Int32 → Int32 → gSt → gO) → gO
  | 0, _, _, _, _, _ => none
  | nL5 + 1, l5_6, l5_5, l5_4, σL5, kL5 =>
    if (σL5 17 0) ≤ l5_6 then (kL5 l5_6 l5_5 l5_4 σL5) else (gBd (M_X1_isDoubted l5_6 σL5) (fun r8 σ7 => if r8 = 0 then (if l5_5 ≤ l5_5 then (gNm (l5_6 + 1 : Int32) (fun x11 => L5_X7_bestQuestion a1 a2 a3 nL5 x11 l5_5 l5_4 σ7 kL5)) else (gNm (l5_6 + 1 : Int32) (fun x12 => L5_X7_bestQuestion a1 a2 a3 nL5 x12 l5_5 l5_6 σ7 kL5))) else (gBd (M_X7_mostLeftBy l5_6 σ7) (fun r14 σ13 => if l5_5 ≤ r14 then (gNm (l5_6 + 1 : Int32) (fun x16 => L5_X7_bestQuestion a1 a2 a3 nL5 x16 l5_5 l5_4 σ13 kL5)) else (gNm (l5_6 + 1 : Int32) (fun x17 => L5_X7_bestQuestion a1 a2 a3 nL5 x17 r14 l5_6 σ13 kL5))))))
def M_X7_bestQuestion (a1 a2 a3 : Int32) (σ : gSt) : gO :=
  gBd (M_X7_prepare a1 a2 a3 σ) (fun r2 σ1 => gBd (M_X7_takeTurns σ1) (fun r4 σ3 => L5_X7_bestQuestion a1 a2 a3 gFu 0 8 (-100006) σ3 (fun z18 z19 z20 σ21 => some (z20, σ21))))
set_option maxHeartbeats 4000000 in
set_option maxRecDepth 100000 in
theorem c_X7_bestQuestion (l : Launch) (G : gPar) (a1 a2 a3 : Int32) (σ : gSt) {r : Int32} {σ' : gSt} (h : M_X7_bestQuestion a1 a2 a3 σ = some (r, σ')) : gC l G yX7_bestQuestion cX7_bestQuestion 8 (some .int) 4 98 [.ref (G.2.2.1 85), .int a1, .int a2, .int a3] σ r σ' := by
  refine gC_of (by decide) (Nat.le_of_ble_eq_true rfl) ?_
  intro p e s m below meth c hx hb hr ht hown hlk hml hE hP ls hl
  have hS : va_S (gA G) s.heap s.heap [] := va_S.rf
  have hl : lv_has ls 8 [(0, .ref (G.2.2.1 85)), (1, .int a1), (2, .int a2), (3, .int a3)] := hl
  unfold M_X7_bestQuestion at h
  refine lv_aload_n hx hb dX7_bestQuestion_0 rfl (lv_at hl 0 rfl) ?_
  refine lv_iload_n hx hb dX7_bestQuestion_1 rfl (lv_at hl 1 rfl) ?_
  refine lv_iload_n hx hb dX7_bestQuestion_2 rfl (lv_at hl 2 rfl) ?_
  refine lv_iload_n hx hb dX7_bestQuestion_3 rfl (lv_at hl 3 rfl) ?_
  obtain ⟨r2, σ1, hcr2, h⟩ := g_bd h
  refine g_callVv (As := [.int a1, .int a2, .int a3]) (n := 3) hx hb hml hown ht (c_X7_prepare l G _ _ _ _ hcr2) m_484 m_486 m_2 m_39 m_487 (by decide +kernel) (by decide) gE_85 rfl hE hP hS (fun _ h => h) (fun _ _ h => h) rfl hl.1 rfl (Nat.le_of_ble_eq_true rfl) dX7_bestQuestion_4 ⟨by decide, by decide⟩ ⟨Nat.zero_le _, Nat.zero_le _⟩ (fun H locs hP hS => ?_)
  refine lv_aload_n hx hb dX7_bestQuestion_7 rfl (lv_at hl 0 rfl) ?_
  obtain ⟨r4, σ3, hcr4, h⟩ := g_bd h
  refine g_callVv (As := []) (n := 0) hx hb hml hown ht (c_X7_takeTurns l G _ hcr4) m_558 m_560 m_10 m_39 m_561 (by decide +kernel) (by decide) gE_85 rfl hE hP hS (fun _ h => h) (fun _ _ h => h) rfl hl.1 rfl (Nat.le_of_ble_eq_true rfl) dX7_bestQuestion_8 ⟨by decide, by decide⟩ ⟨Nat.zero_le _, Nat.zero_le _⟩ (fun H locs hP hS => ?_)
  refine lv_ldc hx hb hown (ht _ m_575) dX7_bestQuestion_11 ?_
  refine lv_istore (lv' := [(4, .int (-100006)), (0, .ref (G.2.2.1 85)), (1, .int a1), (2, .int a2), (3, .int a3)]) hx hb dX7_bestQuestion_13 hl (by decide) rfl (fun ls hl => ?_)
  refine lv_bipush (v := 8) hx hb dX7_bestQuestion_15 (by decide) ?_
  refine lv_istore (lv' := [(5, .int 8), (4, .int (-100006)), (0, .ref (G.2.2.1 85)), (1, .int a1), (2, .int a2), (3, .int a3)]) hx hb dX7_bestQuestion_17 hl (by decide) rfl (fun ls hl => ?_)
  refine lv_iconst (v := 0) hx hb dX7_bestQuestion_19 (by decide) ?_
  refine lv_istore (lv' := [(6, .int 0), (5, .int 8), (4, .int (-100006)), (0, .ref (G.2.2.1 85)), (1, .int a1), (2, .int a2), (3, .int a3)]) hx hb dX7_bestQuestion_20 hl (by decide) rfl (fun ls hl => ?_)
  have LPL5 : ∀ (kL5 : Int32 → Int32 → Int32 → gSt → gO), (∀ (l5_6 l5_5 l5_4 : Int32) (σL5 : gSt) (H : Heap) (locs : List Loc) (ls : Array Slot), kL5 l5_6 l5_5 l5_4 σL5 = some (r, σ') → gW G σL5 H → va_S (gA G) s.heap H locs → lv_has ls 8 [(6, .int l5_6), (5, .int l5_5), (4, .int l5_4), (0, .ref (G.2.2.1 85)), (1, .int a1), (2, .int a2), (3, .int a3)] → W p l e (gRm 4 98) s m ([.ref (G.2.2.1 85), .int a1, .int a2, .int a3].toArray) below meth c H locs 0 0 (MQ below (gQ G r σ') ([.ref (G.2.2.1 85), .int a1, .int a2, .int a3].toArray) s 0 0 (gA G)) (F0 m 86 ls [])) → ∀ (nL5 : Nat) (l5_6 l5_5 l5_4 : Int32) (σL5 : gSt) (H : Heap) (locs : List Loc) (ls : Array Slot), L5_X7_bestQuestion a1 a2 a3 nL5 l5_6 l5_5 l5_4 σL5 kL5 = some (r, σ') → gW G σL5 H → va_S (gA G) s.heap H locs → lv_has ls 8 [(6, .int l5_6), (5, .int l5_5), (4, .int l5_4), (0, .ref (G.2.2.1 85)), (1, .int a1), (2, .int a2), (3, .int a3)] → W p l e (gRm 4 98) s m ([.ref (G.2.2.1 85), .int a1, .int a2, .int a3].toArray) below meth c H locs 0 0 (MQ below (gQ G r σ') ([.ref (G.2.2.1 85), .int a1, .int a2, .int a3].toArray) s 0 0 (gA G)) (F0 m 22 ls []) := by
    intro kL5 hKL5 nL5
    induction nL5 with
    | zero =>
      intro l5_6 l5_5 l5_4 σL5 H locs ls h
      cases h
    | succ nL5 ihL5 =>
      intro l5_6 l5_5 l5_4 σL5 H locs ls h hP hS hl
      rw [L5_X7_bestQuestion] at h
      refine lv_iload hx hb dX7_bestQuestion_22 (lv_at hl 0 rfl) ?_
      refine lv_aload_n hx hb dX7_bestQuestion_24 rfl (lv_at hl 3 rfl) ?_
      refine g_get hx hb ht hown hE hP (by decide) gE_85 uX7 rfl 0 (by decide) m_284 rfl rfl dX7_bestQuestion_25 ?_
      refine g_get hx hb ht hown hE hP (by decide) gE_1 uX0 rfl 2 (by decide) m_252 rfl rfl dX7_bestQuestion_28 ?_
      refine g_get hx hb ht hown hE hP (by decide) gE_17 uX1 rfl 0 (by decide) m_122 rfl rfl dX7_bestQuestion_31 ?_
      refine lv_icmp_ge (tgt := 86) hx hb dX7_bestQuestion_34 (by decide) (fun c6 => ?_) (fun c6 => ?_)
      · have h := g_ift c6 h
        exact hKL5 _ _ _ _ _ _ _ h hP hS (lv_sub hl [0, 1, 2, 3, 4, 5, 6] rfl)
      · have h := g_iff c6 h
        refine lv_aload_n hx hb dX7_bestQuestion_37 rfl (lv_at hl 3 rfl) ?_
        refine g_get hx hb ht hown hE hP (by decide) gE_85 uX7 rfl 0 (by decide) m_284 rfl rfl dX7_bestQuestion_38 ?_
        refine g_get hx hb ht hown hE hP (by decide) gE_1 uX0 rfl 2 (by decide) m_252 rfl rfl dX7_bestQuestion_41 ?_
        refine lv_iload hx hb dX7_bestQuestion_44 (lv_at hl 0 rfl) ?_
        obtain ⟨r8, σ7, hcr8, h⟩ := g_bd h
        refine g_callV (As := [.int l5_6]) (n := 1) hx hb hml hown ht (c_X1_isDoubted l G _ _ hcr8) m_562 m_441 m_442 m_35 m_443 (by decide +kernel) (by decide) gE_17 rfl hE hP hS (fun _ h => h) (fun _ _ h => h) rfl hl.1 rfl (Nat.le_of_ble_eq_true rfl) dX7_bestQuestion_46 ⟨by decide, by decide⟩ ⟨Nat.zero_le _, Nat.zero_le _⟩ (fun H locs hP hS => ?_)
        refine lv_if_eq (tgt := 61) hx hb dX7_bestQuestion_49 (by decide) (fun c9 => ?_) (fun c9 => ?_)
        · have h := g_ift c9 h
          refine lv_iload hx hb dX7_bestQuestion_61 (lv_at hl 1 rfl) ?_
          refine lv_istore (lv' := [(7, .int l5_5), (6, .int l5_6), (5, .int l5_5), (4, .int l5_4), (0, .ref (G.2.2.1 85)), (1, .int a1), (2, .int a2), (3, .int a3)]) hx hb dX7_bestQuestion_63 hl (by decide) rfl (fun ls hl => ?_)
          refine lv_iload hx hb dX7_bestQuestion_65 (lv_at hl 0 rfl) ?_
          refine lv_iload hx hb dX7_bestQuestion_67 (lv_at hl 2 rfl) ?_
          refine lv_icmp_ge (tgt := 80) hx hb dX7_bestQuestion_69 (by decide) (fun c10 => ?_) (fun c10 => ?_)
          · have h := g_ift c10 h
            obtain ⟨x11, ex11⟩ : ∃ y : Int32, y = l5_6 + 1 := ⟨_, rfl⟩
            have h := g_nm ex11 h
            refine lv_iinc (v := x11) (lv' := [(6, .int x11), (7, .int l5_5), (5, .int l5_5), (4, .int l5_4), (0, .ref (G.2.2.1 85)), (1, .int a1), (2, .int a2), (3, .int a3)]) hx hb dX7_bestQuestion_80 hl (k := 1) rfl (by rw [ex11]; rfl) (by decide) rfl (fun ls hl => ?_)
            refine lv_goto (tgt := 22) hx hb dX7_bestQuestion_83 (by decide) ?_
            exact ihL5 _ _ _ _ _ _ _ h hP hS (lv_sub hl [0, 2, 3, 4, 5, 6, 7] rfl)
          · have h := g_iff c10 h
            refine lv_iload hx hb dX7_bestQuestion_72 (lv_at hl 0 rfl) ?_
            refine lv_istore (lv' := [(5, .int l5_5), (7, .int l5_5), (6, .int l5_6), (4, .int l5_4), (0, .ref (G.2.2.1 85)), (1, .int a1), (2, .int a2), (3, .int a3)]) hx hb dX7_bestQuestion_74 hl (by decide) rfl (fun ls hl => ?_)
            refine lv_iload hx hb dX7_bestQuestion_76 (lv_at hl 2 rfl) ?_
            refine lv_istore (lv' := [(4, .int l5_6), (5, .int l5_5), (7, .int l5_5), (6, .int l5_6), (0, .ref (G.2.2.1 85)), (1, .int a1), (2, .int a2), (3, .int a3)]) hx hb dX7_bestQuestion_78 hl (by decide) rfl (fun ls hl => ?_)
            obtain ⟨x12, ex12⟩ : ∃ y : Int32, y = l5_6 + 1 := ⟨_, rfl⟩
            have h := g_nm ex12 h
            refine lv_iinc (v := x12) (lv' := [(6, .int x12), (4, .int l5_6), (5, .int l5_5), (7, .int l5_5), (0, .ref (G.2.2.1 85)), (1, .int a1), (2, .int a2), (3, .int a3)]) hx hb dX7_bestQuestion_80 hl (k := 3) rfl (by rw [ex12]; rfl) (by decide) rfl (fun ls hl => ?_)
            refine lv_goto (tgt := 22) hx hb dX7_bestQuestion_83 (by decide) ?_
            exact ihL5 _ _ _ _ _ _ _ h hP hS (lv_sub hl [0, 2, 1, 4, 5, 6, 7] rfl)
        · have h := g_iff c9 h
          refine lv_aload_n hx hb dX7_bestQuestion_52 rfl (lv_at hl 3 rfl) ?_
          refine lv_iload hx hb dX7_bestQuestion_53 (lv_at hl 0 rfl) ?_
          obtain ⟨r14, σ13, hcr14, h⟩ := g_bd h
          refine g_callV (As := [.int l5_6]) (n := 1) hx hb hml hown ht (c_X7_mostLeftBy l G _ _ hcr14) m_576 m_578 m_12 m_39 m_579 (by decide +kernel) (by decide) gE_85 rfl hE hP hS (fun _ h => h) (fun _ _ h => h) rfl hl.1 rfl (Nat.le_of_ble_eq_true rfl) dX7_bestQuestion_55 ⟨by decide, by decide⟩ ⟨Nat.zero_le _, Nat.zero_le _⟩ (fun H locs hP hS => ?_)
          refine lv_goto (tgt := 63) hx hb dX7_bestQuestion_58 (by decide) ?_
          refine lv_istore (lv' := [(7, .int r14), (6, .int l5_6), (5, .int l5_5), (4, .int l5_4), (0, .ref (G.2.2.1 85)), (1, .int a1), (2, .int a2), (3, .int a3)]) hx hb dX7_bestQuestion_63 hl (by decide) rfl (fun ls hl => ?_)
          refine lv_iload hx hb dX7_bestQuestion_65 (lv_at hl 0 rfl) ?_
          refine lv_iload hx hb dX7_bestQuestion_67 (lv_at hl 2 rfl) ?_
          refine lv_icmp_ge (tgt := 80) hx hb dX7_bestQuestion_69 (by decide) (fun c15 => ?_) (fun c15 => ?_)
          · have h := g_ift c15 h
            obtain ⟨x16, ex16⟩ : ∃ y : Int32, y = l5_6 + 1 := ⟨_, rfl⟩
            have h := g_nm ex16 h
            refine lv_iinc (v := x16) (lv' := [(6, .int x16), (7, .int r14), (5, .int l5_5), (4, .int l5_4), (0, .ref (G.2.2.1 85)), (1, .int a1), (2, .int a2), (3, .int a3)]) hx hb dX7_bestQuestion_80 hl (k := 1) rfl (by rw [ex16]; rfl) (by decide) rfl (fun ls hl => ?_)
            refine lv_goto (tgt := 22) hx hb dX7_bestQuestion_83 (by decide) ?_
            exact ihL5 _ _ _ _ _ _ _ h hP hS (lv_sub hl [0, 2, 3, 4, 5, 6, 7] rfl)
          · have h := g_iff c15 h
            refine lv_iload hx hb dX7_bestQuestion_72 (lv_at hl 0 rfl) ?_
            refine lv_istore (lv' := [(5, .int r14), (7, .int r14), (6, .int l5_6), (4, .int l5_4), (0, .ref (G.2.2.1 85)), (1, .int a1), (2, .int a2), (3, .int a3)]) hx hb dX7_bestQuestion_74 hl (by decide) rfl (fun ls hl => ?_)
            refine lv_iload hx hb dX7_bestQuestion_76 (lv_at hl 2 rfl) ?_
            refine lv_istore (lv' := [(4, .int l5_6), (5, .int r14), (7, .int r14), (6, .int l5_6), (0, .ref (G.2.2.1 85)), (1, .int a1), (2, .int a2), (3, .int a3)]) hx hb dX7_bestQuestion_78 hl (by decide) rfl (fun ls hl => ?_)
            obtain ⟨x17, ex17⟩ : ∃ y : Int32, y = l5_6 + 1 := ⟨_, rfl⟩
            have h := g_nm ex17 h
            refine lv_iinc (v := x17) (lv' := [(6, .int x17), (4, .int l5_6), (5, .int r14), (7, .int r14), (0, .ref (G.2.2.1 85)), (1, .int a1), (2, .int a2), (3, .int a3)]) hx hb dX7_bestQuestion_80 hl (k := 3) rfl (by rw [ex17]; rfl) (by decide) rfl (fun ls hl => ?_)
            refine lv_goto (tgt := 22) hx hb dX7_bestQuestion_83 (by decide) ?_
            exact ihL5 _ _ _ _ _ _ _ h hP hS (lv_sub hl [0, 2, 1, 4, 5, 6, 7] rfl)
  refine LPL5 _ (fun z18 z19 z20 σ21 H locs ls h hP hS hl => ?_) gFu _ _ _ _ _ _ _ h hP hS (lv_sub hl [0, 1, 2, 3, 4, 5, 6] rfl)
  refine lv_iload hx hb dX7_bestQuestion_86 (lv_at hl 2 rfl) ?_
  exact g_iret hx hb hr hlk hE hP hS h dX7_bestQuestion_88
