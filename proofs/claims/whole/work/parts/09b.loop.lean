section LW2
variable {p : Program} {l : Launch} {e : Env} {s : State} {m : MethodId} {below : List Frame} {meth : Method} {c : Code} {b L : Nat} {xs : Nat → Int32} {G : gPar} {k z : Nat}
theorem nI_all (x : Int32) : nI x.toBitVec.toNat = x := by
  apply Int32.toBitVec_inj.mp
  show BitVec.ofNat 32 x.toBitVec.toNat = x.toBitVec
  simp
theorem lw_63 (x : Int32) : ∃ v, v < 64 ∧ x &&& 63 = nI v := by
  refine ⟨x.toBitVec.toNat % 2 ^ 6, Nat.mod_lt _ (by decide), ?_⟩
  have := fa_mask x.toBitVec.toNat 6
  rw [nI_all] at this
  exact this
theorem lw_far {i : Nat} (hL : L ≤ 4096) (hi : i ≤ L + 8) : Int32.ofNat L - 8 < nI i ↔ L < i + 8 := by
  have e1 : (nI L).toInt = L := nI_toInt (by omega)
  have e2 : (nI i).toInt = i := nI_toInt (by omega)
  have e3 : (8 : Int32).toInt = 8 := rfl
  show nI L - 8 < nI i ↔ L < i + 8
  rw [fa_lt, fb_subI (by rw [e1, e3]; omega) (by rw [e1, e3]; omega), e1, e2, e3]
  omega
set_option maxHeartbeats 8000000 in
set_option maxRecDepth 100000 in
theorem lw_loop (hK : lw_K p s m c b L xs G k z) (hr : meth.sig.returnType = ret) (hlk : meth.locks = false) : ∀ (n i : Nat) (σ : gSt) (H : Heap) (locs : List Loc) (ls : Array Slot), L < i + 8 * n → i ≤ L + 8 → Inv σ → gW G σ H → va_S (lw_A s) s.heap H locs → lv_has ls 4 [(3, .int (nI i)), (2, .ref (G.2.2.1 101)), (1, .ref (G.2.2.1 0)), (0, .ref b)] → W p l e room_1 s m #[Value.ref b] below meth c H locs k z (lw_Z below #[Value.ref b] s) (F0 m 18 ls []) := by
  obtain ⟨hx, hb, hml, hown, ht, hX, hbl, hE, hAd, hk, hz, hL⟩ := id hK
  intro n
  induction n with
  | zero =>
    intro i σ H locs ls hn hi9 hI hP hS hl
    refine lv_iload_n hx hb dL_law_18 rfl (lv_at hl 0 rfl) ?_
    refine lv_aload_n hx hb dL_law_19 rfl (lv_at hl 3 rfl) ?_
    refine va_slen hx hb hX hbl (Nat.not_le.mpr hbl) hS dL_law_20 ?_
    refine lv_bipush (v := 8) hx hb dL_law_21 (by decide) ?_
    refine lv_isub hx hb dL_law_23 ?_
    refine lv_icmp_gt (tgt := 1462) hx hb dL_law_24 (by decide) (fun _ => ?_) (fun c => absurd ((lw_far hL hi9).mpr (by omega)) c)
    refine lv_iconst (v := 1) hx hb dL_law_1462 (by decide) ?_
    exact va_forget (fun q hq => hS.2.2 q hq) (W.widen (k := 600000) (n := 7302250) hk hz (lw_ret hx hb hr hlk dL_law_1463))
  | succ n ih =>
    intro i σ H locs ls hn hi9 hI hP hS hl
    refine lv_iload_n hx hb dL_law_18 rfl (lv_at hl 0 rfl) ?_
    refine lv_aload_n hx hb dL_law_19 rfl (lv_at hl 3 rfl) ?_
    refine va_slen hx hb hX hbl (Nat.not_le.mpr hbl) hS dL_law_20 ?_
    refine lv_bipush (v := 8) hx hb dL_law_21 (by decide) ?_
    refine lv_isub hx hb dL_law_23 ?_
    refine lv_icmp_gt (tgt := 1462) hx hb dL_law_24 (by decide) (fun _ => ?_) (fun far => ?_)
    · refine lv_iconst (v := 1) hx hb dL_law_1462 (by decide) ?_
      exact va_forget (fun q hq => hS.2.2 q hq) (W.widen (k := 600000) (n := 7302250) hk hz (lw_ret hx hb hr hlk dL_law_1463))
    · have hi : i + 8 ≤ L := Nat.not_lt.mp (fun h => far ((lw_far hL hi9).mpr h))
      have fin : ∀ (σ2 : gSt) (H : Heap) (locs : List Loc), Inv σ2 → gW G σ2 H → va_S (lw_A s) s.heap H locs → W p l e room_1 s m #[Value.ref b] below meth c H locs k z (lw_Z below #[Value.ref b] s) (F0 m 1456 ls []) := by
        intro σ2 H locs hI hP hS
        refine lv_iinc (v := nI (i + 8)) (lv' := [(3, .int (nI (i + 8))), (2, .ref (G.2.2.1 101)), (1, .ref (G.2.2.1 0)), (0, .ref b)]) hx hb dL_law_1456 hl (k := 0) rfl (by rw [← li_add' 8 i]; rfl) (by decide) rfl (fun ls hl => ?_)
        refine lv_goto (tgt := 18) hx hb dL_law_1459 (by decide) ?_
        exact ih (i + 8) σ2 H locs ls (by omega) (by omega) hI hP hS hl
      refine lv_aload_n hx hb dL_law_27 rfl (lv_at hl 3 rfl) ?_
      refine lv_iload_n hx hb dL_law_28 rfl (lv_at hl 0 rfl) ?_
      refine va_sld hx hb hX hbl (Nat.not_le.mpr hbl) hS (nI_in (show i < L by omega) (by omega)) dL_law_29 ?_
      refine lv_bipush (v := 63) hx hb dL_law_30 (by decide) ?_
      refine lv_iand hx hb dL_law_32 ?_
      obtain ⟨v, hv, ev⟩ := lw_63 (xs (nI i).toNatClampNeg)
      rw [ev]
      by_cases h34 : v < 34
      · rcases (show v = 0 ∨ v = 1 ∨ v = 2 ∨ v = 3 ∨ v = 4 ∨ v = 5 ∨ v = 6 ∨ v = 7 ∨ v = 8 ∨ v = 9 ∨ v = 10 ∨ v = 11 ∨ v = 12 ∨ v = 13 ∨ v = 14 ∨ v = 15 ∨ v = 16 ∨ v = 17 ∨ v = 18 ∨ v = 19 ∨ v = 20 ∨ v = 21 ∨ v = 22 ∨ v = 23 ∨ v = 24 ∨ v = 25 ∨ v = 26 ∨ v = 27 ∨ v = 28 ∨ v = 29 ∨ v = 30 ∨ v = 31 ∨ v = 32 ∨ v = 33 by omega) with rfl | rfl | rfl | rfl | rfl | rfl | rfl | rfl | rfl | rfl | rfl | rfl | rfl | rfl | rfl | rfl | rfl | rfl | rfl | rfl | rfl | rfl | rfl | rfl | rfl | rfl | rfl | rfl | rfl | rfl | rfl | rfl | rfl | rfl
        · exact lv_tableIn (off := 151) (tgt := 184) hx hb dL_law_33 (by decide) (by decide) (by decide +kernel) (by decide) (lw_0 hK hI hP hS hl hi fin)
        · exact lv_tableIn (off := 174) (tgt := 207) hx hb dL_law_33 (by decide) (by decide) (by decide +kernel) (by decide) (lw_1 hK hI hP hS hl hi fin)
        · exact lv_tableIn (off := 217) (tgt := 250) hx hb dL_law_33 (by decide) (by decide) (by decide +kernel) (by decide) (lw_2 hK hI hP hS hl hi fin)
        · exact lv_tableIn (off := 260) (tgt := 293) hx hb dL_law_33 (by decide) (by decide) (by decide +kernel) (by decide) (lw_3 hK hI hP hS hl hi fin)
        · exact lv_tableIn (off := 293) (tgt := 326) hx hb dL_law_33 (by decide) (by decide) (by decide +kernel) (by decide) (lw_4 hK hI hP hS hl hi fin)
        · exact lv_tableIn (off := 336) (tgt := 369) hx hb dL_law_33 (by decide) (by decide) (by decide +kernel) (by decide) (lw_5 hK hI hP hS hl hi fin)
        · exact lv_tableIn (off := 369) (tgt := 402) hx hb dL_law_33 (by decide) (by decide) (by decide +kernel) (by decide) (lw_6 hK hI hP hS hl hi fin)
        · exact lv_tableIn (off := 456) (tgt := 489) hx hb dL_law_33 (by decide) (by decide) (by decide +kernel) (by decide) (lw_7 hK hI hP hS hl hi fin)
        · exact lv_tableIn (off := 505) (tgt := 538) hx hb dL_law_33 (by decide) (by decide) (by decide +kernel) (by decide) (lw_8 hK hI hP hS hl hi fin)
        · exact lv_tableIn (off := 518) (tgt := 551) hx hb dL_law_33 (by decide) (by decide) (by decide +kernel) (by decide) (lw_9 hK hI hP hS hl hi fin)
        · exact lv_tableIn (off := 571) (tgt := 604) hx hb dL_law_33 (by decide) (by decide) (by decide +kernel) (by decide) (lw_10 hK hI hP hS hl hi fin)
        · exact lv_tableIn (off := 604) (tgt := 637) hx hb dL_law_33 (by decide) (by decide) (by decide +kernel) (by decide) (lw_11 hK hI hP hS hl hi fin)
        · exact lv_tableIn (off := 647) (tgt := 680) hx hb dL_law_33 (by decide) (by decide) (by decide +kernel) (by decide) (lw_12 hK hI hP hS hl hi fin)
        · exact lv_tableIn (off := 690) (tgt := 723) hx hb dL_law_33 (by decide) (by decide) (by decide +kernel) (by decide) (lw_13 hK hI hP hS hl hi fin)
        · exact lv_tableIn (off := 733) (tgt := 766) hx hb dL_law_33 (by decide) (by decide) (by decide +kernel) (by decide) (lw_14 hK hI hP hS hl hi fin)
        · exact lv_tableIn (off := 776) (tgt := 809) hx hb dL_law_33 (by decide) (by decide) (by decide +kernel) (by decide) (lw_15 hK hI hP hS hl hi fin)
        · exact lv_tableIn (off := 819) (tgt := 852) hx hb dL_law_33 (by decide) (by decide) (by decide +kernel) (by decide) (lw_16 hK hI hP hS hl hi fin)
        · exact lv_tableIn (off := 872) (tgt := 905) hx hb dL_law_33 (by decide) (by decide) (by decide +kernel) (by decide) (lw_17 hK hI hP hS hl hi fin)
        · exact lv_tableIn (off := 905) (tgt := 938) hx hb dL_law_33 (by decide) (by decide) (by decide +kernel) (by decide) (lw_18 hK hI hP hS hl hi fin)
        · exact lv_tableIn (off := 938) (tgt := 971) hx hb dL_law_33 (by decide) (by decide) (by decide +kernel) (by decide) (lw_19 hK hI hP hS hl hi fin)
        · exact lv_tableIn (off := 961) (tgt := 994) hx hb dL_law_33 (by decide) (by decide) (by decide +kernel) (by decide) (lw_20 hK hI hP hS hl hi fin)
        · exact lv_tableIn (off := 994) (tgt := 1027) hx hb dL_law_33 (by decide) (by decide) (by decide +kernel) (by decide) (lw_21 hK hI hP hS hl hi fin)
        · exact lv_tableIn (off := 1037) (tgt := 1070) hx hb dL_law_33 (by decide) (by decide) (by decide +kernel) (by decide) (lw_22 hK hI hP hS hl hi fin)
        · exact lv_tableIn (off := 1070) (tgt := 1103) hx hb dL_law_33 (by decide) (by decide) (by decide +kernel) (by decide) (lw_23 hK hI hP hS hl hi fin)
        · exact lv_tableIn (off := 1103) (tgt := 1136) hx hb dL_law_33 (by decide) (by decide) (by decide +kernel) (by decide) (lw_24 hK hI hP hS hl hi fin)
        · exact lv_tableIn (off := 1136) (tgt := 1169) hx hb dL_law_33 (by decide) (by decide) (by decide +kernel) (by decide) (lw_25 hK hI hP hS hl hi fin)
        · exact lv_tableIn (off := 1169) (tgt := 1202) hx hb dL_law_33 (by decide) (by decide) (by decide +kernel) (by decide) (lw_26 hK hI hP hS hl hi fin)
        · exact lv_tableIn (off := 1202) (tgt := 1235) hx hb dL_law_33 (by decide) (by decide) (by decide +kernel) (by decide) (lw_27 hK hI hP hS hl hi fin)
        · exact lv_tableIn (off := 1245) (tgt := 1278) hx hb dL_law_33 (by decide) (by decide) (by decide +kernel) (by decide) (lw_28 hK hI hP hS hl hi fin)
        · exact lv_tableIn (off := 1288) (tgt := 1321) hx hb dL_law_33 (by decide) (by decide) (by decide +kernel) (by decide) (lw_29 hK hI hP hS hl hi fin)
        · exact lv_tableIn (off := 1351) (tgt := 1384) hx hb dL_law_33 (by decide) (by decide) (by decide +kernel) (by decide) (lw_30 hK hI hP hS hl hi fin)
        · exact lv_tableIn (off := 1374) (tgt := 1407) hx hb dL_law_33 (by decide) (by decide) (by decide +kernel) (by decide) (lw_31 hK hI hP hS hl hi fin)
        · exact lv_tableIn (off := 1387) (tgt := 1420) hx hb dL_law_33 (by decide) (by decide) (by decide +kernel) (by decide) (lw_32 hK hI hP hS hl hi fin)
        · exact lv_tableIn (off := 1400) (tgt := 1433) hx hb dL_law_33 (by decide) (by decide) (by decide +kernel) (by decide) (lw_33 hK hI hP hS hl hi fin)
      · exact lv_tableOut (tgt := 1456) hx hb dL_law_33 (Or.inr (by rw [nI_toInt (by omega)]; omega)) (by decide) (fin σ H locs hI hP hS)
end LW2
