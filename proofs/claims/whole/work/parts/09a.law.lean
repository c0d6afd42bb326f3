/-! THE CLAIM OUT OF ONE WALK OF THE LAW'S BODY. Your part is whole_start (and what it stands on); all else here is the same for every law, but numbers. -/
def R_law : String := "PoorDeskLaw"
def lw_P (b : Addr) (xs : List Int32) (args : Array Value) (s : State) : Prop := args = #[.ref b] ∧ s.IntsAt b xs ∧ xs.length ≤ 4096 ∧ (Jvm.Cond.and given_1 narrow_1).before args s = true
def lw_Q (_ : Array Value) (s : State) (o : Outcome) (t : State) : Prop := o = .returned (some (.int 1)) ∧ Framed s o t [] 600000 7302250
def lw_Z (below : List Frame) (a : Array Value) (s : State) : State → Prop := fun t => ∃ o, t.status = .running ∧ Ended t below o ∧ lw_Q a s o t
/-- the law's own end, with 1 on the stack, nothing written that was there before, its room as the claim has it -/
theorem lw_ret {p : Program} {l : Launch} {e : Env} {s : State} {m : MethodId} {below : List Frame} {meth : Method} {c : Code} {b : Nat} (hx : p.tables.exec = Jvm.exec) (hb : c.code = code) (hr : meth.sig.returnType = ret) (hlocks : meth.locks = false) {pc : Nat} {H : Heap} {ls : Array Slot} (hdg : decode code pc = .ok (.ireturn, 1)) : W p l e room_1 s m #[Value.ref b] below meth c H [] 600000 7302250 (lw_Z below #[Value.ref b] s) (F0 m pc ls [.int 1]) := by
  intro T hT X
  obtain ⟨fs, hret, hrun, hended, hW, hframe⟩ := X.leave (v := some (.int 1)) (hlocks := hlocks) (fun h => by rw [hr] at h; cases h)
  have hmeth' : T.vm.method? m = some meth := X.method'
  refine ⟨T.setFrames fs, ?_, .returned (some (.int 1)), hrun, hended, rfl, ⟨_, rfl⟩, hW, hframe⟩
  jvm_step X.here [X.here.top, hx, hb, hdg, hmeth', hr, ret, narrow_b1]
  (try refine ⟨rfl, ?_⟩); (try refine ⟨rfl, ?_⟩)
  first | (intro acts; rw [hret _ acts rfl rfl rfl]) | rw [hret _ _ rfl rfl rfl]
  exact Steps.refl _
/-- what holds at the law's entry: the machine, the code, the tables' words (any of lw_tbl by 'hts w (by decide +kernel)'), the script of L ints xs at the cell b, what the Statement gives of the start (any of its parts by flat_of_before) -/
def lw_At (p : Program) (s : State) (m : MethodId) (meth : Method) (c : Code) (b L : Nat) (xs : Nat → Int32) : Prop :=
  p.tables.exec = Jvm.exec ∧ c.code = code ∧ meth.sig.returnType = ret ∧ c.maxLocals = 4 ∧ s.vm.findClass R_law = some m.cls ∧ (∀ w ∈ lw_tbl, w.before #[Value.ref b] s = true) ∧ va_X b L xs s s.heap ∧ b < s.heap.size ∧ meth.locks = false ∧ (Jvm.Cond.and given_1 narrow_1).before #[Value.ref b] s = true
section LW
variable {p : Program} {l : Launch} {e : Env} {s : State} {m : MethodId} {below : List Frame} {meth : Method} {c : Code} {b L i : Nat} {xs : Nat → Int32} {G : gPar} {σ : gSt} {H : Heap} {locs : List Loc} {ls : Array Slot} {k z : Nat} {Q : State → Prop}
/-- what stays through the law's loop -/
def lw_K (p : Program) (s : State) (m : MethodId) (c : Code) (b L : Nat) (xs : Nat → Int32) (G : gPar) (k z : Nat) : Prop := p.tables.exec = Jvm.exec ∧ c.code = code ∧ c.maxLocals = 4 ∧ s.vm.findClass "PoorDeskLaw" = some m.cls ∧ (∀ w ∈ gTb, w.before #[Value.ref b] s = true) ∧ va_X b L xs s s.heap ∧ b < s.heap.size ∧ gEnv G s ∧ (∀ q, gA G q → s.heap.size ≤ q) ∧ k ≤ 600000 ∧ z ≤ 7302250 ∧ L ≤ 4096
abbrev lw_A (s : State) : Nat → Prop := fun q => s.heap.size ≤ q
theorem lw_arg {pc : Nat} {rest : List Value} (hK : lw_K p s m c b L xs G k z) (hS : va_S (lw_A s) s.heap H locs) (hl : lv_has ls 4 [(3, .int (nI i)), (2, .ref (G.2.2.1 101)), (1, .ref (G.2.2.1 0)), (0, .ref b)]) (hi : i + 8 ≤ L) (j : Nat) (hj : j < 8) {v : Int} (hv : Int32.ofInt v = nI j) (h1 : decode code pc = .ok (.aload_n 0, 1)) (h2 : decode code (pc + 1) = .ok (.iload_n 3, 1)) (h3 : decode code (pc + 2) = .ok (.iconst v, 1)) (h4 : decode code (pc + 3) = .ok (.iadd, 1)) (h5 : decode code (pc + 4) = .ok (.iaload, 1))
    (kk : W p l e room_1 s m #[Value.ref b] below meth c H locs k z Q (F0 m (pc + 5) ls (.int (xs (i + j)) :: rest))) : W p l e room_1 s m #[Value.ref b] below meth c H locs k z Q (F0 m pc ls rest) := by
  obtain ⟨hx, hb, hml, hown, ht, hX, hbl, hE, hAd, hk, hz, hL⟩ := hK
  refine lv_aload_n hx hb h1 rfl (lv_at hl 3 rfl) ?_
  refine lv_iload_n hx hb h2 rfl (lv_at hl 0 rfl) ?_
  refine lv_iconst hx hb h3 hv ?_
  refine lv_iadd hx hb h4 ?_
  rw [nI_add]
  refine va_sld hx hb hX hbl (Nat.not_le.mpr hbl) hS (nI_in (show i + j < L by omega) (by omega)) h5 ?_
  rw [nI_tn (by omega)]
  exact kk
theorem lw_argB {pc : Nat} {rest : List Value} (hK : lw_K p s m c b L xs G k z) (hS : va_S (lw_A s) s.heap H locs) (hl : lv_has ls 4 [(3, .int (nI i)), (2, .ref (G.2.2.1 101)), (1, .ref (G.2.2.1 0)), (0, .ref b)]) (hi : i + 8 ≤ L) (j : Nat) (hj : j < 8) {v : Int} (hv : (Int8.ofInt v).toInt32 = nI j) (h1 : decode code pc = .ok (.aload_n 0, 1)) (h2 : decode code (pc + 1) = .ok (.iload_n 3, 1)) (h3 : decode code (pc + 2) = .ok (.bipush v, 2)) (h4 : decode code (pc + 4) = .ok (.iadd, 1)) (h5 : decode code (pc + 5) = .ok (.iaload, 1))
    (kk : W p l e room_1 s m #[Value.ref b] below meth c H locs k z Q (F0 m (pc + 6) ls (.int (xs (i + j)) :: rest))) : W p l e room_1 s m #[Value.ref b] below meth c H locs k z Q (F0 m pc ls rest) := by
  obtain ⟨hx, hb, hml, hown, ht, hX, hbl, hE, hAd, hk, hz, hL⟩ := hK
  refine lv_aload_n hx hb h1 rfl (lv_at hl 3 rfl) ?_
  refine lv_iload_n hx hb h2 rfl (lv_at hl 0 rfl) ?_
  refine lv_bipush hx hb h3 hv ?_
  refine lv_iadd hx hb h4 ?_
  rw [nI_add]
  refine va_sld hx hb hX hbl (Nat.not_le.mpr hbl) hS (nI_in (show i + j < L by omega) (by omega)) h5 ?_
  rw [nI_tn (by omega)]
  exact kk
theorem lw_0 (hK : lw_K p s m c b L xs G k z) (hI : Inv σ) (hP : gW G σ H) (hS : va_S (lw_A s) s.heap H locs) (hl : lv_has ls 4 [(3, .int (nI i)), (2, .ref (G.2.2.1 101)), (1, .ref (G.2.2.1 0)), (0, .ref b)]) (hi : i + 8 ≤ L) (kk : ∀ (σ2 : gSt) (H : Heap) (locs : List Loc), Inv σ2 → gW G σ2 H → va_S (lw_A s) s.heap H locs → W p l e room_1 s m #[Value.ref b] below meth c H locs k z Q (F0 m 1456 ls [])) : W p l e room_1 s m #[Value.ref b] below meth c H locs k z Q (F0 m 184 ls []) := by
  obtain ⟨hx, hb, hml, hown, ht, hX, hbl, hE, hAd, hk, hz, hL⟩ := id hK
  have hA2 : ∀ q, q < s.heap.size → ¬ gA G q → ¬ lw_A s q := fun q h1 _ h2 => Nat.not_le.mpr h1 h2
  obtain ⟨r, σ1, σ2, e1, e2, hI2⟩ := t_parish (xs (i + 1)) hI
  refine lv_aload_n hx hb dL_law_184 rfl (lv_at hl 2 rfl) ?_
  refine lw_arg hK hS hl hi 1 (by decide) (by decide) dL_law_185 dL_law_186 dL_law_187 dL_law_188 dL_law_189 ?_
  refine g_callV (k := 0) (n := 1) (rest := []) hx hb hml hown ht (c_X9_parish l G _ _ e1) m_350 m_351 m_352 m_31 m_353 ⟨rfl, by decide, by decide, by decide⟩ (by decide) gE_0 rfl hE hP hS hAd hA2 rfl hl.1 rfl (Nat.le_of_ble_eq_true rfl) dL_law_190 ⟨(Nat.le_of_ble_eq_true rfl), (Nat.le_of_ble_eq_true rfl)⟩ ⟨hk, hz⟩ (fun H locs hP hS => ?_)
  refine lv_aload_n hx hb dL_law_193 rfl (lv_at hl 1 rfl) ?_
  refine lw_arg hK hS hl hi 1 (by decide) (by decide) dL_law_194 dL_law_195 dL_law_196 dL_law_197 dL_law_198 ?_
  refine g_callV (k := 101) (n := 1) (rest := [.int r]) hx hb hml hown ht (c_X10_parish l G _ _ e2) m_830 m_831 m_832 m_41 m_833 ⟨rfl, by decide, by decide, by decide⟩ (by decide) gE_101 rfl hE hP hS hAd hA2 rfl hl.1 rfl (Nat.le_of_ble_eq_true rfl) dL_law_199 ⟨(Nat.le_of_ble_eq_true rfl), (Nat.le_of_ble_eq_true rfl)⟩ ⟨hk, hz⟩ (fun H locs hP hS => ?_)
  exact lv_icmp_eq (tgt := 1456) hx hb dL_law_202 (by decide) (fun _ => kk σ2 H locs hI2 hP hS) (fun c => absurd rfl c)
theorem lw_1 (hK : lw_K p s m c b L xs G k z) (hI : Inv σ) (hP : gW G σ H) (hS : va_S (lw_A s) s.heap H locs) (hl : lv_has ls 4 [(3, .int (nI i)), (2, .ref (G.2.2.1 101)), (1, .ref (G.2.2.1 0)), (0, .ref b)]) (hi : i + 8 ≤ L) (kk : ∀ (σ2 : gSt) (H : Heap) (locs : List Loc), Inv σ2 → gW G σ2 H → va_S (lw_A s) s.heap H locs → W p l e room_1 s m #[Value.ref b] below meth c H locs k z Q (F0 m 1456 ls [])) : W p l e room_1 s m #[Value.ref b] below meth c H locs k z Q (F0 m 207 ls []) := by
  obtain ⟨hx, hb, hml, hown, ht, hX, hbl, hE, hAd, hk, hz, hL⟩ := id hK
  have hA2 : ∀ q, q < s.heap.size → ¬ gA G q → ¬ lw_A s q := fun q h1 _ h2 => Nat.not_le.mpr h1 h2
  obtain ⟨r, σ1, σ2, e1, e2, hI2⟩ := t_miles (xs (i + 1)) (xs (i + 2)) (xs (i + 3)) hI
  refine lv_aload_n hx hb dL_law_207 rfl (lv_at hl 2 rfl) ?_
  refine lw_arg hK hS hl hi 1 (by decide) (by decide) dL_law_208 dL_law_209 dL_law_210 dL_law_211 dL_law_212 ?_
  refine lw_arg hK hS hl hi 2 (by decide) (by decide) dL_law_213 dL_law_214 dL_law_215 dL_law_216 dL_law_217 ?_
  refine lw_arg hK hS hl hi 3 (by decide) (by decide) dL_law_218 dL_law_219 dL_law_220 dL_law_221 dL_law_222 ?_
  refine g_callV (k := 0) (n := 3) (rest := []) hx hb hml hown ht (c_X9_miles l G _ _ _ _ e1) m_367 m_368 m_369 m_31 m_370 ⟨rfl, by decide, by decide, by decide⟩ (by decide) gE_0 rfl hE hP hS hAd hA2 rfl hl.1 rfl (Nat.le_of_ble_eq_true rfl) dL_law_223 ⟨(Nat.le_of_ble_eq_true rfl), (Nat.le_of_ble_eq_true rfl)⟩ ⟨hk, hz⟩ (fun H locs hP hS => ?_)
  refine lv_aload_n hx hb dL_law_226 rfl (lv_at hl 1 rfl) ?_
  refine lw_arg hK hS hl hi 1 (by decide) (by decide) dL_law_227 dL_law_228 dL_law_229 dL_law_230 dL_law_231 ?_
  refine lw_arg hK hS hl hi 2 (by decide) (by decide) dL_law_232 dL_law_233 dL_law_234 dL_law_235 dL_law_236 ?_
  refine lw_arg hK hS hl hi 3 (by decide) (by decide) dL_law_237 dL_law_238 dL_law_239 dL_law_240 dL_law_241 ?_
  refine g_callV (k := 101) (n := 3) (rest := [.int r]) hx hb hml hown ht (c_X10_miles l G _ _ _ _ e2) m_843 m_844 m_845 m_41 m_846 ⟨rfl, by decide, by decide, by decide⟩ (by decide) gE_101 rfl hE hP hS hAd hA2 rfl hl.1 rfl (Nat.le_of_ble_eq_true rfl) dL_law_242 ⟨(Nat.le_of_ble_eq_true rfl), (Nat.le_of_ble_eq_true rfl)⟩ ⟨hk, hz⟩ (fun H locs hP hS => ?_)
  exact lv_icmp_eq (tgt := 1456) hx hb dL_law_245 (by decide) (fun _ => kk σ2 H locs hI2 hP hS) (fun c => absurd rfl c)
theorem lw_2 (hK : lw_K p s m c b L xs G k z) (hI : Inv σ) (hP : gW G σ H) (hS : va_S (lw_A s) s.heap H locs) (hl : lv_has ls 4 [(3, .int (nI i)), (2, .ref (G.2.2.1 101)), (1, .ref (G.2.2.1 0)), (0, .ref b)]) (hi : i + 8 ≤ L) (kk : ∀ (σ2 : gSt) (H : Heap) (locs : List Loc), Inv σ2 → gW G σ2 H → va_S (lw_A s) s.heap H locs → W p l e room_1 s m #[Value.ref b] below meth c H locs k z Q (F0 m 1456 ls [])) : W p l e room_1 s m #[Value.ref b] below meth c H locs k z Q (F0 m 250 ls []) := by
  obtain ⟨hx, hb, hml, hown, ht, hX, hbl, hE, hAd, hk, hz, hL⟩ := id hK
  have hA2 : ∀ q, q < s.heap.size → ¬ gA G q → ¬ lw_A s q := fun q h1 _ h2 => Nat.not_le.mpr h1 h2
  obtain ⟨r, σ1, σ2, e1, e2, hI2⟩ := t_person (xs (i + 1)) (xs (i + 2)) (xs (i + 3)) hI
  refine lv_aload_n hx hb dL_law_250 rfl (lv_at hl 2 rfl) ?_
  refine lw_arg hK hS hl hi 1 (by decide) (by decide) dL_law_251 dL_law_252 dL_law_253 dL_law_254 dL_law_255 ?_
  refine lw_arg hK hS hl hi 2 (by decide) (by decide) dL_law_256 dL_law_257 dL_law_258 dL_law_259 dL_law_260 ?_
  refine lw_arg hK hS hl hi 3 (by decide) (by decide) dL_law_261 dL_law_262 dL_law_263 dL_law_264 dL_law_265 ?_
  refine g_callV (k := 0) (n := 3) (rest := []) hx hb hml hown ht (c_X9_person l G _ _ _ _ e1) m_376 m_377 m_378 m_31 m_379 ⟨rfl, by decide, by decide, by decide⟩ (by decide) gE_0 rfl hE hP hS hAd hA2 rfl hl.1 rfl (Nat.le_of_ble_eq_true rfl) dL_law_266 ⟨(Nat.le_of_ble_eq_true rfl), (Nat.le_of_ble_eq_true rfl)⟩ ⟨hk, hz⟩ (fun H locs hP hS => ?_)
  refine lv_aload_n hx hb dL_law_269 rfl (lv_at hl 1 rfl) ?_
  refine lw_arg hK hS hl hi 1 (by decide) (by decide) dL_law_270 dL_law_271 dL_law_272 dL_law_273 dL_law_274 ?_
  refine lw_arg hK hS hl hi 2 (by decide) (by decide) dL_law_275 dL_law_276 dL_law_277 dL_law_278 dL_law_279 ?_
  refine lw_arg hK hS hl hi 3 (by decide) (by decide) dL_law_280 dL_law_281 dL_law_282 dL_law_283 dL_law_284 ?_
  refine g_callV (k := 101) (n := 3) (rest := [.int r]) hx hb hml hown ht (c_X10_person l G _ _ _ _ e2) m_852 m_853 m_854 m_41 m_855 ⟨rfl, by decide, by decide, by decide⟩ (by decide) gE_101 rfl hE hP hS hAd hA2 rfl hl.1 rfl (Nat.le_of_ble_eq_true rfl) dL_law_285 ⟨(Nat.le_of_ble_eq_true rfl), (Nat.le_of_ble_eq_true rfl)⟩ ⟨hk, hz⟩ (fun H locs hP hS => ?_)
  exact lv_icmp_eq (tgt := 1456) hx hb dL_law_288 (by decide) (fun _ => kk σ2 H locs hI2 hP hS) (fun c => absurd rfl c)
theorem lw_3 (hK : lw_K p s m c b L xs G k z) (hI : Inv σ) (hP : gW G σ H) (hS : va_S (lw_A s) s.heap H locs) (hl : lv_has ls 4 [(3, .int (nI i)), (2, .ref (G.2.2.1 101)), (1, .ref (G.2.2.1 0)), (0, .ref b)]) (hi : i + 8 ≤ L) (kk : ∀ (σ2 : gSt) (H : Heap) (locs : List Loc), Inv σ2 → gW G σ2 H → va_S (lw_A s) s.heap H locs → W p l e room_1 s m #[Value.ref b] below meth c H locs k z Q (F0 m 1456 ls [])) : W p l e room_1 s m #[Value.ref b] below meth c H locs k z Q (F0 m 293 ls []) := by
  obtain ⟨hx, hb, hml, hown, ht, hX, hbl, hE, hAd, hk, hz, hL⟩ := id hK
  have hA2 : ∀ q, q < s.heap.size → ¬ gA G q → ¬ lw_A s q := fun q h1 _ h2 => Nat.not_le.mpr h1 h2
  obtain ⟨r, σ1, σ2, e1, e2, hI2⟩ := t_as (xs (i + 1)) (xs (i + 2)) hI
  refine lv_aload_n hx hb dL_law_293 rfl (lv_at hl 2 rfl) ?_
  refine lw_arg hK hS hl hi 1 (by decide) (by decide) dL_law_294 dL_law_295 dL_law_296 dL_law_297 dL_law_298 ?_
  refine lw_arg hK hS hl hi 2 (by decide) (by decide) dL_law_299 dL_law_300 dL_law_301 dL_law_302 dL_law_303 ?_
  refine g_callV (k := 0) (n := 2) (rest := []) hx hb hml hown ht (c_X9_as l G _ _ _ e1) m_391 m_392 m_393 m_31 m_394 ⟨rfl, by decide, by decide, by decide⟩ (by decide) gE_0 rfl hE hP hS hAd hA2 rfl hl.1 rfl (Nat.le_of_ble_eq_true rfl) dL_law_304 ⟨(Nat.le_of_ble_eq_true rfl), (Nat.le_of_ble_eq_true rfl)⟩ ⟨hk, hz⟩ (fun H locs hP hS => ?_)
  refine lv_aload_n hx hb dL_law_307 rfl (lv_at hl 1 rfl) ?_
  refine lw_arg hK hS hl hi 1 (by decide) (by decide) dL_law_308 dL_law_309 dL_law_310 dL_law_311 dL_law_312 ?_
  refine lw_arg hK hS hl hi 2 (by decide) (by decide) dL_law_313 dL_law_314 dL_law_315 dL_law_316 dL_law_317 ?_
  refine g_callV (k := 101) (n := 2) (rest := [.int r]) hx hb hml hown ht (c_X10_as l G _ _ _ e2) m_859 m_860 m_861 m_41 m_862 ⟨rfl, by decide, by decide, by decide⟩ (by decide) gE_101 rfl hE hP hS hAd hA2 rfl hl.1 rfl (Nat.le_of_ble_eq_true rfl) dL_law_318 ⟨(Nat.le_of_ble_eq_true rfl), (Nat.le_of_ble_eq_true rfl)⟩ ⟨hk, hz⟩ (fun H locs hP hS => ?_)
  exact lv_icmp_eq (tgt := 1456) hx hb dL_law_321 (by decide) (fun _ => kk σ2 H locs hI2 hP hS) (fun c => absurd rfl c)
theorem lw_4 (hK : lw_K p s m c b L xs G k z) (hI : Inv σ) (hP : gW G σ H) (hS : va_S (lw_A s) s.heap H locs) (hl : lv_has ls 4 [(3, .int (nI i)), (2, .ref (G.2.2.1 101)), (1, .ref (G.2.2.1 0)), (0, .ref b)]) (hi : i + 8 ≤ L) (kk : ∀ (σ2 : gSt) (H : Heap) (locs : List Loc), Inv σ2 → gW G σ2 H → va_S (lw_A s) s.heap H locs → W p l e room_1 s m #[Value.ref b] below meth c H locs k z Q (F0 m 1456 ls [])) : W p l e room_1 s m #[Value.ref b] below meth c H locs k z Q (F0 m 326 ls []) := by
  obtain ⟨hx, hb, hml, hown, ht, hX, hbl, hE, hAd, hk, hz, hL⟩ := id hK
  have hA2 : ∀ q, q < s.heap.size → ¬ gA G q → ¬ lw_A s q := fun q h1 _ h2 => Nat.not_le.mpr h1 h2
  obtain ⟨r, σ1, σ2, e1, e2, hI2⟩ := t_husband (xs (i + 1)) (xs (i + 2)) (xs (i + 3)) hI
  refine lv_aload_n hx hb dL_law_326 rfl (lv_at hl 2 rfl) ?_
  refine lw_arg hK hS hl hi 1 (by decide) (by decide) dL_law_327 dL_law_328 dL_law_329 dL_law_330 dL_law_331 ?_
  refine lw_arg hK hS hl hi 2 (by decide) (by decide) dL_law_332 dL_law_333 dL_law_334 dL_law_335 dL_law_336 ?_
  refine lw_arg hK hS hl hi 3 (by decide) (by decide) dL_law_337 dL_law_338 dL_law_339 dL_law_340 dL_law_341 ?_
  refine g_callV (k := 0) (n := 3) (rest := []) hx hb hml hown ht (c_X9_husband l G _ _ _ _ e1) m_406 m_407 m_408 m_31 m_409 ⟨rfl, by decide, by decide, by decide⟩ (by decide) gE_0 rfl hE hP hS hAd hA2 rfl hl.1 rfl (Nat.le_of_ble_eq_true rfl) dL_law_342 ⟨(Nat.le_of_ble_eq_true rfl), (Nat.le_of_ble_eq_true rfl)⟩ ⟨hk, hz⟩ (fun H locs hP hS => ?_)
  refine lv_aload_n hx hb dL_law_345 rfl (lv_at hl 1 rfl) ?_
  refine lw_arg hK hS hl hi 1 (by decide) (by decide) dL_law_346 dL_law_347 dL_law_348 dL_law_349 dL_law_350 ?_
  refine lw_arg hK hS hl hi 2 (by decide) (by decide) dL_law_351 dL_law_352 dL_law_353 dL_law_354 dL_law_355 ?_
  refine lw_arg hK hS hl hi 3 (by decide) (by decide) dL_law_356 dL_law_357 dL_law_358 dL_law_359 dL_law_360 ?_
  refine g_callV (k := 101) (n := 3) (rest := [.int r]) hx hb hml hown ht (c_X10_husband l G _ _ _ _ e2) m_868 m_869 m_870 m_41 m_871 ⟨rfl, by decide, by decide, by decide⟩ (by decide) gE_101 rfl hE hP hS hAd hA2 rfl hl.1 rfl (Nat.le_of_ble_eq_true rfl) dL_law_361 ⟨(Nat.le_of_ble_eq_true rfl), (Nat.le_of_ble_eq_true rfl)⟩ ⟨hk, hz⟩ (fun H locs hP hS => ?_)
  exact lv_icmp_eq (tgt := 1456) hx hb dL_law_364 (by decide) (fun _ => kk σ2 H locs hI2 hP hS) (fun c => absurd rfl c)
theorem lw_5 (hK : lw_K p s m c b L xs G k z) (hI : Inv σ) (hP : gW G σ H) (hS : va_S (lw_A s) s.heap H locs) (hl : lv_has ls 4 [(3, .int (nI i)), (2, .ref (G.2.2.1 101)), (1, .ref (G.2.2.1 0)), (0, .ref b)]) (hi : i + 8 ≤ L) (kk : ∀ (σ2 : gSt) (H : Heap) (locs : List Loc), Inv σ2 → gW G σ2 H → va_S (lw_A s) s.heap H locs → W p l e room_1 s m #[Value.ref b] below meth c H locs k z Q (F0 m 1456 ls [])) : W p l e room_1 s m #[Value.ref b] below meth c H locs k z Q (F0 m 369 ls []) := by
  obtain ⟨hx, hb, hml, hown, ht, hX, hbl, hE, hAd, hk, hz, hL⟩ := id hK
  have hA2 : ∀ q, q < s.heap.size → ¬ gA G q → ¬ lw_A s q := fun q h1 _ h2 => Nat.not_le.mpr h1 h2
  obtain ⟨r, σ1, σ2, e1, e2, hI2⟩ := t_father (xs (i + 1)) (xs (i + 2)) hI
  refine lv_aload_n hx hb dL_law_369 rfl (lv_at hl 2 rfl) ?_
  refine lw_arg hK hS hl hi 1 (by decide) (by decide) dL_law_370 dL_law_371 dL_law_372 dL_law_373 dL_law_374 ?_
  refine lw_arg hK hS hl hi 2 (by decide) (by decide) dL_law_375 dL_law_376 dL_law_377 dL_law_378 dL_law_379 ?_
  refine g_callV (k := 0) (n := 2) (rest := []) hx hb hml hown ht (c_X9_father l G _ _ _ e1) m_420 m_421 m_422 m_31 m_423 ⟨rfl, by decide, by decide, by decide⟩ (by decide) gE_0 rfl hE hP hS hAd hA2 rfl hl.1 rfl (Nat.le_of_ble_eq_true rfl) dL_law_380 ⟨(Nat.le_of_ble_eq_true rfl), (Nat.le_of_ble_eq_true rfl)⟩ ⟨hk, hz⟩ (fun H locs hP hS => ?_)
  refine lv_aload_n hx hb dL_law_383 rfl (lv_at hl 1 rfl) ?_
  refine lw_arg hK hS hl hi 1 (by decide) (by decide) dL_law_384 dL_law_385 dL_law_386 dL_law_387 dL_law_388 ?_
  refine lw_arg hK hS hl hi 2 (by decide) (by decide) dL_law_389 dL_law_390 dL_law_391 dL_law_392 dL_law_393 ?_
  refine g_callV (k := 101) (n := 2) (rest := [.int r]) hx hb hml hown ht (c_X10_father l G _ _ _ e2) m_877 m_878 m_879 m_41 m_880 ⟨rfl, by decide, by decide, by decide⟩ (by decide) gE_101 rfl hE hP hS hAd hA2 rfl hl.1 rfl (Nat.le_of_ble_eq_true rfl) dL_law_394 ⟨(Nat.le_of_ble_eq_true rfl), (Nat.le_of_ble_eq_true rfl)⟩ ⟨hk, hz⟩ (fun H locs hP hS => ?_)
  exact lv_icmp_eq (tgt := 1456) hx hb dL_law_397 (by decide) (fun _ => kk σ2 H locs hI2 hP hS) (fun c => absurd rfl c)
theorem lw_6 (hK : lw_K p s m c b L xs G k z) (hI : Inv σ) (hP : gW G σ H) (hS : va_S (lw_A s) s.heap H locs) (hl : lv_has ls 4 [(3, .int (nI i)), (2, .ref (G.2.2.1 101)), (1, .ref (G.2.2.1 0)), (0, .ref b)]) (hi : i + 8 ≤ L) (kk : ∀ (σ2 : gSt) (H : Heap) (locs : List Loc), Inv σ2 → gW G σ2 H → va_S (lw_A s) s.heap H locs → W p l e room_1 s m #[Value.ref b] below meth c H locs k z Q (F0 m 1456 ls [])) : W p l e room_1 s m #[Value.ref b] below meth c H locs k z Q (F0 m 402 ls []) := by
  obtain ⟨hx, hb, hml, hown, ht, hX, hbl, hE, hAd, hk, hz, hL⟩ := id hK
  have hA2 : ∀ q, q < s.heap.size → ¬ gA G q → ¬ lw_A s q := fun q h1 _ h2 => Nat.not_le.mpr h1 h2
  obtain ⟨r, σ1, σ2, e1, e2, hI2⟩ := t_fact (xs (i + 1)) (xs (i + 2)) (xs (i + 3)) (xs (i + 4)) (xs (i + 5)) (xs (i + 6)) (xs (i + 7)) hI
  refine lv_aload_n hx hb dL_law_402 rfl (lv_at hl 2 rfl) ?_
  refine lw_arg hK hS hl hi 1 (by decide) (by decide) dL_law_403 dL_law_404 dL_law_405 dL_law_406 dL_law_407 ?_
  refine lw_arg hK hS hl hi 2 (by decide) (by decide) dL_law_408 dL_law_409 dL_law_410 dL_law_411 dL_law_412 ?_
  refine lw_arg hK hS hl hi 3 (by decide) (by decide) dL_law_413 dL_law_414 dL_law_415 dL_law_416 dL_law_417 ?_
  refine lw_arg hK hS hl hi 4 (by decide) (by decide) dL_law_418 dL_law_419 dL_law_420 dL_law_421 dL_law_422 ?_
  refine lw_arg hK hS hl hi 5 (by decide) (by decide) dL_law_423 dL_law_424 dL_law_425 dL_law_426 dL_law_427 ?_
  refine lw_argB hK hS hl hi 6 (by decide) (by decide) dL_law_428 dL_law_429 dL_law_430 dL_law_432 dL_law_433 ?_
  refine lw_argB hK hS hl hi 7 (by decide) (by decide) dL_law_434 dL_law_435 dL_law_436 dL_law_438 dL_law_439 ?_
  refine g_callV (k := 0) (n := 7) (rest := []) hx hb hml hown ht (c_X9_fact l G _ _ _ _ _ _ _ _ e1) m_424 m_425 m_426 m_31 m_427 ⟨rfl, by decide, by decide, by decide⟩ (by decide) gE_0 rfl hE hP hS hAd hA2 rfl hl.1 rfl (Nat.le_of_ble_eq_true rfl) dL_law_440 ⟨(Nat.le_of_ble_eq_true rfl), (Nat.le_of_ble_eq_true rfl)⟩ ⟨hk, hz⟩ (fun H locs hP hS => ?_)
  refine lv_aload_n hx hb dL_law_443 rfl (lv_at hl 1 rfl) ?_
  refine lw_arg hK hS hl hi 1 (by decide) (by decide) dL_law_444 dL_law_445 dL_law_446 dL_law_447 dL_law_448 ?_
  refine lw_arg hK hS hl hi 2 (by decide) (by decide) dL_law_449 dL_law_450 dL_law_451 dL_law_452 dL_law_453 ?_
  refine lw_arg hK hS hl hi 3 (by decide) (by decide) dL_law_454 dL_law_455 dL_law_456 dL_law_457 dL_law_458 ?_
  refine lw_arg hK hS hl hi 4 (by decide) (by decide) dL_law_459 dL_law_460 dL_law_461 dL_law_462 dL_law_463 ?_
  refine lw_arg hK hS hl hi 5 (by decide) (by decide) dL_law_464 dL_law_465 dL_law_466 dL_law_467 dL_law_468 ?_
  refine lw_argB hK hS hl hi 6 (by decide) (by decide) dL_law_469 dL_law_470 dL_law_471 dL_law_473 dL_law_474 ?_
  refine lw_argB hK hS hl hi 7 (by decide) (by decide) dL_law_475 dL_law_476 dL_law_477 dL_law_479 dL_law_480 ?_
  refine g_callV (k := 101) (n := 7) (rest := [.int r]) hx hb hml hown ht (c_X10_fact l G _ _ _ _ _ _ _ _ e2) m_881 m_882 m_883 m_41 m_884 ⟨rfl, by decide, by decide, by decide⟩ (by decide) gE_101 rfl hE hP hS hAd hA2 rfl hl.1 rfl (Nat.le_of_ble_eq_true rfl) dL_law_481 ⟨(Nat.le_of_ble_eq_true rfl), (Nat.le_of_ble_eq_true rfl)⟩ ⟨hk, hz⟩ (fun H locs hP hS => ?_)
  exact lv_icmp_eq (tgt := 1456) hx hb dL_law_484 (by decide) (fun _ => kk σ2 H locs hI2 hP hS) (fun c => absurd rfl c)
theorem lw_7 (hK : lw_K p s m c b L xs G k z) (hI : Inv σ) (hP : gW G σ H) (hS : va_S (lw_A s) s.heap H locs) (hl : lv_has ls 4 [(3, .int (nI i)), (2, .ref (G.2.2.1 101)), (1, .ref (G.2.2.1 0)), (0, .ref b)]) (hi : i + 8 ≤ L) (kk : ∀ (σ2 : gSt) (H : Heap) (locs : List Loc), Inv σ2 → gW G σ2 H → va_S (lw_A s) s.heap H locs → W p l e room_1 s m #[Value.ref b] below meth c H locs k z Q (F0 m 1456 ls [])) : W p l e room_1 s m #[Value.ref b] below meth c H locs k z Q (F0 m 489 ls []) := by
  obtain ⟨hx, hb, hml, hown, ht, hX, hbl, hE, hAd, hk, hz, hL⟩ := id hK
  have hA2 : ∀ q, q < s.heap.size → ¬ gA G q → ¬ lw_A s q := fun q h1 _ h2 => Nat.not_le.mpr h1 h2
  by_cases y : xs (i + 2) = 0
  · obtain ⟨r, σ1, σ2, e1, e2, hI2⟩ := t_doubt (xs (i + 1)) 0 hI (Or.inl rfl)
    refine lv_aload_n hx hb dL_law_489 rfl (lv_at hl 2 rfl) ?_
    refine lw_arg hK hS hl hi 1 (by decide) (by decide) dL_law_490 dL_law_491 dL_law_492 dL_law_493 dL_law_494 ?_
    refine lw_arg hK hS hl hi 2 (by decide) (by decide) dL_law_495 dL_law_496 dL_law_497 dL_law_498 dL_law_499 ?_
    refine lv_if_eq (tgt := 507) hx hb dL_law_500 (by decide) (fun _ => ?_) (fun c => absurd y c)
    refine lv_iconst (v := 0) hx hb dL_law_507 (by decide) ?_
    refine g_callV (k := 0) (n := 2) (rest := []) hx hb hml hown ht (c_X9_doubt l G _ _ _ e1) m_432 m_433 m_434 m_31 m_435 ⟨rfl, by decide, by decide, by decide⟩ (by decide) gE_0 rfl hE hP hS hAd hA2 rfl hl.1 rfl (Nat.le_of_ble_eq_true rfl) dL_law_508 ⟨(Nat.le_of_ble_eq_true rfl), (Nat.le_of_ble_eq_true rfl)⟩ ⟨hk, hz⟩ (fun H locs hP hS => ?_)
    refine lv_aload_n hx hb dL_law_511 rfl (lv_at hl 1 rfl) ?_
    refine lw_arg hK hS hl hi 1 (by decide) (by decide) dL_law_512 dL_law_513 dL_law_514 dL_law_515 dL_law_516 ?_
    refine lw_arg hK hS hl hi 2 (by decide) (by decide) dL_law_517 dL_law_518 dL_law_519 dL_law_520 dL_law_521 ?_
    refine lv_if_eq (tgt := 529) hx hb dL_law_522 (by decide) (fun _ => ?_) (fun c => absurd y c)
    refine lv_iconst (v := 0) hx hb dL_law_529 (by decide) ?_
    refine g_callV (k := 101) (n := 2) (rest := [.int r]) hx hb hml hown ht (c_X10_doubt l G _ _ _ e2) m_885 m_886 m_887 m_41 m_888 ⟨rfl, by decide, by decide, by decide⟩ (by decide) gE_101 rfl hE hP hS hAd hA2 rfl hl.1 rfl (Nat.le_of_ble_eq_true rfl) dL_law_530 ⟨(Nat.le_of_ble_eq_true rfl), (Nat.le_of_ble_eq_true rfl)⟩ ⟨hk, hz⟩ (fun H locs hP hS => ?_)
    exact lv_icmp_eq (tgt := 1456) hx hb dL_law_533 (by decide) (fun _ => kk σ2 H locs hI2 hP hS) (fun c => absurd rfl c)
  · obtain ⟨r, σ1, σ2, e1, e2, hI2⟩ := t_doubt (xs (i + 1)) 1 hI (Or.inr rfl)
    refine lv_aload_n hx hb dL_law_489 rfl (lv_at hl 2 rfl) ?_
    refine lw_arg hK hS hl hi 1 (by decide) (by decide) dL_law_490 dL_law_491 dL_law_492 dL_law_493 dL_law_494 ?_
    refine lw_arg hK hS hl hi 2 (by decide) (by decide) dL_law_495 dL_law_496 dL_law_497 dL_law_498 dL_law_499 ?_
    refine lv_if_eq (tgt := 507) hx hb dL_law_500 (by decide) (fun c => absurd c y) (fun _ => ?_)
    refine lv_iconst (v := 1) hx hb dL_law_503 (by decide) ?_
    refine lv_goto (tgt := 508) hx hb dL_law_504 (by decide) ?_
    refine g_callV (k := 0) (n := 2) (rest := []) hx hb hml hown ht (c_X9_doubt l G _ _ _ e1) m_432 m_433 m_434 m_31 m_435 ⟨rfl, by decide, by decide, by decide⟩ (by decide) gE_0 rfl hE hP hS hAd hA2 rfl hl.1 rfl (Nat.le_of_ble_eq_true rfl) dL_law_508 ⟨(Nat.le_of_ble_eq_true rfl), (Nat.le_of_ble_eq_true rfl)⟩ ⟨hk, hz⟩ (fun H locs hP hS => ?_)
    refine lv_aload_n hx hb dL_law_511 rfl (lv_at hl 1 rfl) ?_
    refine lw_arg hK hS hl hi 1 (by decide) (by decide) dL_law_512 dL_law_513 dL_law_514 dL_law_515 dL_law_516 ?_
    refine lw_arg hK hS hl hi 2 (by decide) (by decide) dL_law_517 dL_law_518 dL_law_519 dL_law_520 dL_law_521 ?_
    refine lv_if_eq (tgt := 529) hx hb dL_law_522 (by decide) (fun c => absurd c y) (fun _ => ?_)
    refine lv_iconst (v := 1) hx hb dL_law_525 (by decide) ?_
    refine lv_goto (tgt := 530) hx hb dL_law_526 (by decide) ?_
    refine g_callV (k := 101) (n := 2) (rest := [.int r]) hx hb hml hown ht (c_X10_doubt l G _ _ _ e2) m_885 m_886 m_887 m_41 m_888 ⟨rfl, by decide, by decide, by decide⟩ (by decide) gE_101 rfl hE hP hS hAd hA2 rfl hl.1 rfl (Nat.le_of_ble_eq_true rfl) dL_law_530 ⟨(Nat.le_of_ble_eq_true rfl), (Nat.le_of_ble_eq_true rfl)⟩ ⟨hk, hz⟩ (fun H locs hP hS => ?_)
    exact lv_icmp_eq (tgt := 1456) hx hb dL_law_533 (by decide) (fun _ => kk σ2 H locs hI2 hP hS) (fun c => absurd rfl c)
theorem lw_8 (hK : lw_K p s m c b L xs G k z) (hI : Inv σ) (hP : gW G σ H) (hS : va_S (lw_A s) s.heap H locs) (hl : lv_has ls 4 [(3, .int (nI i)), (2, .ref (G.2.2.1 101)), (1, .ref (G.2.2.1 0)), (0, .ref b)]) (hi : i + 8 ≤ L) (kk : ∀ (σ2 : gSt) (H : Heap) (locs : List Loc), Inv σ2 → gW G σ2 H → va_S (lw_A s) s.heap H locs → W p l e room_1 s m #[Value.ref b] below meth c H locs k z Q (F0 m 1456 ls [])) : W p l e room_1 s m #[Value.ref b] below meth c H locs k z Q (F0 m 538 ls []) := by
  obtain ⟨hx, hb, hml, hown, ht, hX, hbl, hE, hAd, hk, hz, hL⟩ := id hK
  have hA2 : ∀ q, q < s.heap.size → ¬ gA G q → ¬ lw_A s q := fun q h1 _ h2 => Nat.not_le.mpr h1 h2
  obtain ⟨r, σ1, σ2, e1, e2, hI2⟩ := t_forget hI
  refine lv_aload_n hx hb dL_law_538 rfl (lv_at hl 2 rfl) ?_
  refine g_callV (k := 0) (n := 0) (rest := []) hx hb hml hown ht (c_X9_forget l G _ e1) m_448 m_449 m_450 m_31 m_451 ⟨rfl, by decide, by decide, by decide⟩ (by decide) gE_0 rfl hE hP hS hAd hA2 rfl hl.1 rfl (Nat.le_of_ble_eq_true rfl) dL_law_539 ⟨(Nat.le_of_ble_eq_true rfl), (Nat.le_of_ble_eq_true rfl)⟩ ⟨hk, hz⟩ (fun H locs hP hS => ?_)
  refine lv_aload_n hx hb dL_law_542 rfl (lv_at hl 1 rfl) ?_
  refine g_callV (k := 101) (n := 0) (rest := [.int r]) hx hb hml hown ht (c_X10_forget l G _ e2) m_893 m_894 m_895 m_41 m_896 ⟨rfl, by decide, by decide, by decide⟩ (by decide) gE_101 rfl hE hP hS hAd hA2 rfl hl.1 rfl (Nat.le_of_ble_eq_true rfl) dL_law_543 ⟨(Nat.le_of_ble_eq_true rfl), (Nat.le_of_ble_eq_true rfl)⟩ ⟨hk, hz⟩ (fun H locs hP hS => ?_)
  exact lv_icmp_eq (tgt := 1456) hx hb dL_law_546 (by decide) (fun _ => kk σ2 H locs hI2 hP hS) (fun c => absurd rfl c)
theorem lw_9 (hK : lw_K p s m c b L xs G k z) (hI : Inv σ) (hP : gW G σ H) (hS : va_S (lw_A s) s.heap H locs) (hl : lv_has ls 4 [(3, .int (nI i)), (2, .ref (G.2.2.1 101)), (1, .ref (G.2.2.1 0)), (0, .ref b)]) (hi : i + 8 ≤ L) (kk : ∀ (σ2 : gSt) (H : Heap) (locs : List Loc), Inv σ2 → gW G σ2 H → va_S (lw_A s) s.heap H locs → W p l e room_1 s m #[Value.ref b] below meth c H locs k z Q (F0 m 1456 ls [])) : W p l e room_1 s m #[Value.ref b] below meth c H locs k z Q (F0 m 551 ls []) := by
  obtain ⟨hx, hb, hml, hown, ht, hX, hbl, hE, hAd, hk, hz, hL⟩ := id hK
  have hA2 : ∀ q, q < s.heap.size → ¬ gA G q → ¬ lw_A s q := fun q h1 _ h2 => Nat.not_le.mpr h1 h2
  obtain ⟨r, σ1, σ2, e1, e2, hI2⟩ := t_law (xs (i + 1)) (xs (i + 2)) (xs (i + 3)) (xs (i + 4)) hI
  refine lv_aload_n hx hb dL_law_551 rfl (lv_at hl 2 rfl) ?_
  refine lw_arg hK hS hl hi 1 (by decide) (by decide) dL_law_552 dL_law_553 dL_law_554 dL_law_555 dL_law_556 ?_
  refine lw_arg hK hS hl hi 2 (by decide) (by decide) dL_law_557 dL_law_558 dL_law_559 dL_law_560 dL_law_561 ?_
  refine lw_arg hK hS hl hi 3 (by decide) (by decide) dL_law_562 dL_law_563 dL_law_564 dL_law_565 dL_law_566 ?_
  refine lw_arg hK hS hl hi 4 (by decide) (by decide) dL_law_567 dL_law_568 dL_law_569 dL_law_570 dL_law_571 ?_
  refine g_callV (k := 0) (n := 4) (rest := []) hx hb hml hown ht (c_X9_law l G _ _ _ _ _ e1) m_453 m_454 m_455 m_31 m_456 ⟨rfl, by decide, by decide, by decide⟩ (by decide) gE_0 rfl hE hP hS hAd hA2 rfl hl.1 rfl (Nat.le_of_ble_eq_true rfl) dL_law_572 ⟨(Nat.le_of_ble_eq_true rfl), (Nat.le_of_ble_eq_true rfl)⟩ ⟨hk, hz⟩ (fun H locs hP hS => ?_)
  refine lv_aload_n hx hb dL_law_575 rfl (lv_at hl 1 rfl) ?_
  refine lw_arg hK hS hl hi 1 (by decide) (by decide) dL_law_576 dL_law_577 dL_law_578 dL_law_579 dL_law_580 ?_
  refine lw_arg hK hS hl hi 2 (by decide) (by decide) dL_law_581 dL_law_582 dL_law_583 dL_law_584 dL_law_585 ?_
  refine lw_arg hK hS hl hi 3 (by decide) (by decide) dL_law_586 dL_law_587 dL_law_588 dL_law_589 dL_law_590 ?_
  refine lw_arg hK hS hl hi 4 (by decide) (by decide) dL_law_591 dL_law_592 dL_law_593 dL_law_594 dL_law_595 ?_
  refine g_callV (k := 101) (n := 4) (rest := [.int r]) hx hb hml hown ht (c_X10_law l G _ _ _ _ _ e2) m_898 m_899 m_900 m_41 m_901 ⟨rfl, by decide, by decide, by decide⟩ (by decide) gE_101 rfl hE hP hS hAd hA2 rfl hl.1 rfl (Nat.le_of_ble_eq_true rfl) dL_law_596 ⟨(Nat.le_of_ble_eq_true rfl), (Nat.le_of_ble_eq_true rfl)⟩ ⟨hk, hz⟩ (fun H locs hP hS => ?_)
  exact lv_icmp_eq (tgt := 1456) hx hb dL_law_599 (by decide) (fun _ => kk σ2 H locs hI2 hP hS) (fun c => absurd rfl c)
theorem lw_10 (hK : lw_K p s m c b L xs G k z) (hI : Inv σ) (hP : gW G σ H) (hS : va_S (lw_A s) s.heap H locs) (hl : lv_has ls 4 [(3, .int (nI i)), (2, .ref (G.2.2.1 101)), (1, .ref (G.2.2.1 0)), (0, .ref b)]) (hi : i + 8 ≤ L) (kk : ∀ (σ2 : gSt) (H : Heap) (locs : List Loc), Inv σ2 → gW G σ2 H → va_S (lw_A s) s.heap H locs → W p l e room_1 s m #[Value.ref b] below meth c H locs k z Q (F0 m 1456 ls [])) : W p l e room_1 s m #[Value.ref b] below meth c H locs k z Q (F0 m 604 ls []) := by
  obtain ⟨hx, hb, hml, hown, ht, hX, hbl, hE, hAd, hk, hz, hL⟩ := id hK
  have hA2 : ∀ q, q < s.heap.size → ¬ gA G q → ¬ lw_A s q := fun q h1 _ h2 => Nat.not_le.mpr h1 h2
  obtain ⟨r, σ1, σ2, e1, e2, hI2⟩ := t_ends (xs (i + 1)) (xs (i + 2)) hI
  refine lv_aload_n hx hb dL_law_604 rfl (lv_at hl 2 rfl) ?_
  refine lw_arg hK hS hl hi 1 (by decide) (by decide) dL_law_605 dL_law_606 dL_law_607 dL_law_608 dL_law_609 ?_
  refine lw_arg hK hS hl hi 2 (by decide) (by decide) dL_law_610 dL_law_611 dL_law_612 dL_law_613 dL_law_614 ?_
  refine g_callV (k := 0) (n := 2) (rest := []) hx hb hml hown ht (c_X9_ends l G _ _ _ e1) m_464 m_465 m_466 m_31 m_467 ⟨rfl, by decide, by decide, by decide⟩ (by decide) gE_0 rfl hE hP hS hAd hA2 rfl hl.1 rfl (Nat.le_of_ble_eq_true rfl) dL_law_615 ⟨(Nat.le_of_ble_eq_true rfl), (Nat.le_of_ble_eq_true rfl)⟩ ⟨hk, hz⟩ (fun H locs hP hS => ?_)
  refine lv_aload_n hx hb dL_law_618 rfl (lv_at hl 1 rfl) ?_
  refine lw_arg hK hS hl hi 1 (by decide) (by decide) dL_law_619 dL_law_620 dL_law_621 dL_law_622 dL_law_623 ?_
  refine lw_arg hK hS hl hi 2 (by decide) (by decide) dL_law_624 dL_law_625 dL_law_626 dL_law_627 dL_law_628 ?_
  refine g_callV (k := 101) (n := 2) (rest := [.int r]) hx hb hml hown ht (c_X10_ends l G _ _ _ e2) m_902 m_903 m_904 m_41 m_905 ⟨rfl, by decide, by decide, by decide⟩ (by decide) gE_101 rfl hE hP hS hAd hA2 rfl hl.1 rfl (Nat.le_of_ble_eq_true rfl) dL_law_629 ⟨(Nat.le_of_ble_eq_true rfl), (Nat.le_of_ble_eq_true rfl)⟩ ⟨hk, hz⟩ (fun H locs hP hS => ?_)
  exact lv_icmp_eq (tgt := 1456) hx hb dL_law_632 (by decide) (fun _ => kk σ2 H locs hI2 hP hS) (fun c => absurd rfl c)
theorem lw_11 (hK : lw_K p s m c b L xs G k z) (hI : Inv σ) (hP : gW G σ H) (hS : va_S (lw_A s) s.heap H locs) (hl : lv_has ls 4 [(3, .int (nI i)), (2, .ref (G.2.2.1 101)), (1, .ref (G.2.2.1 0)), (0, .ref b)]) (hi : i + 8 ≤ L) (kk : ∀ (σ2 : gSt) (H : Heap) (locs : List Loc), Inv σ2 → gW G σ2 H → va_S (lw_A s) s.heap H locs → W p l e room_1 s m #[Value.ref b] below meth c H locs k z Q (F0 m 1456 ls [])) : W p l e room_1 s m #[Value.ref b] below meth c H locs k z Q (F0 m 637 ls []) := by
  obtain ⟨hx, hb, hml, hown, ht, hX, hbl, hE, hAd, hk, hz, hL⟩ := id hK
  have hA2 : ∀ q, q < s.heap.size → ¬ gA G q → ¬ lw_A s q := fun q h1 _ h2 => Nat.not_le.mpr h1 h2
  obtain ⟨r, σ1, σ2, e1, e2, hI2⟩ := t_own (xs (i + 1)) (xs (i + 2)) (xs (i + 3)) hI
  refine lv_aload_n hx hb dL_law_637 rfl (lv_at hl 2 rfl) ?_
  refine lw_arg hK hS hl hi 1 (by decide) (by decide) dL_law_638 dL_law_639 dL_law_640 dL_law_641 dL_law_642 ?_
  refine lw_arg hK hS hl hi 2 (by decide) (by decide) dL_law_643 dL_law_644 dL_law_645 dL_law_646 dL_law_647 ?_
  refine lw_arg hK hS hl hi 3 (by decide) (by decide) dL_law_648 dL_law_649 dL_law_650 dL_law_651 dL_law_652 ?_
  refine g_callV (k := 0) (n := 3) (rest := []) hx hb hml hown ht (c_X9_own l G _ _ _ _ e1) m_472 m_473 m_474 m_31 m_475 ⟨rfl, by decide, by decide, by decide⟩ (by decide) gE_0 rfl hE hP hS hAd hA2 rfl hl.1 rfl (Nat.le_of_ble_eq_true rfl) dL_law_653 ⟨(Nat.le_of_ble_eq_true rfl), (Nat.le_of_ble_eq_true rfl)⟩ ⟨hk, hz⟩ (fun H locs hP hS => ?_)
  refine lv_aload_n hx hb dL_law_656 rfl (lv_at hl 1 rfl) ?_
  refine lw_arg hK hS hl hi 1 (by decide) (by decide) dL_law_657 dL_law_658 dL_law_659 dL_law_660 dL_law_661 ?_
  refine lw_arg hK hS hl hi 2 (by decide) (by decide) dL_law_662 dL_law_663 dL_law_664 dL_law_665 dL_law_666 ?_
  refine lw_arg hK hS hl hi 3 (by decide) (by decide) dL_law_667 dL_law_668 dL_law_669 dL_law_670 dL_law_671 ?_
  refine g_callV (k := 101) (n := 3) (rest := [.int r]) hx hb hml hown ht (c_X10_own l G _ _ _ _ e2) m_906 m_907 m_908 m_41 m_909 ⟨rfl, by decide, by decide, by decide⟩ (by decide) gE_101 rfl hE hP hS hAd hA2 rfl hl.1 rfl (Nat.le_of_ble_eq_true rfl) dL_law_672 ⟨(Nat.le_of_ble_eq_true rfl), (Nat.le_of_ble_eq_true rfl)⟩ ⟨hk, hz⟩ (fun H locs hP hS => ?_)
  exact lv_icmp_eq (tgt := 1456) hx hb dL_law_675 (by decide) (fun _ => kk σ2 H locs hI2 hP hS) (fun c => absurd rfl c)
theorem lw_12 (hK : lw_K p s m c b L xs G k z) (hI : Inv σ) (hP : gW G σ H) (hS : va_S (lw_A s) s.heap H locs) (hl : lv_has ls 4 [(3, .int (nI i)), (2, .ref (G.2.2.1 101)), (1, .ref (G.2.2.1 0)), (0, .ref b)]) (hi : i + 8 ≤ L) (kk : ∀ (σ2 : gSt) (H : Heap) (locs : List Loc), Inv σ2 → gW G σ2 H → va_S (lw_A s) s.heap H locs → W p l e room_1 s m #[Value.ref b] below meth c H locs k z Q (F0 m 1456 ls [])) : W p l e room_1 s m #[Value.ref b] below meth c H locs k z Q (F0 m 680 ls []) := by
  obtain ⟨hx, hb, hml, hown, ht, hX, hbl, hE, hAd, hk, hz, hL⟩ := id hK
  have hA2 : ∀ q, q < s.heap.size → ¬ gA G q → ¬ lw_A s q := fun q h1 _ h2 => Nat.not_le.mpr h1 h2
  obtain ⟨r, σ1, σ2, e1, e2, hI2⟩ := t_settlement (xs (i + 1)) (xs (i + 2)) (xs (i + 3)) hI
  refine lv_aload_n hx hb dL_law_680 rfl (lv_at hl 2 rfl) ?_
  refine lw_arg hK hS hl hi 1 (by decide) (by decide) dL_law_681 dL_law_682 dL_law_683 dL_law_684 dL_law_685 ?_
  refine lw_arg hK hS hl hi 2 (by decide) (by decide) dL_law_686 dL_law_687 dL_law_688 dL_law_689 dL_law_690 ?_
  refine lw_arg hK hS hl hi 3 (by decide) (by decide) dL_law_691 dL_law_692 dL_law_693 dL_law_694 dL_law_695 ?_
  refine g_callV (k := 0) (n := 3) (rest := []) hx hb hml hown ht (c_X9_settlement l G _ _ _ _ e1) m_530 m_531 m_532 m_31 m_533 ⟨rfl, by decide, by decide, by decide⟩ (by decide) gE_0 rfl hE hP hS hAd hA2 rfl hl.1 rfl (Nat.le_of_ble_eq_true rfl) dL_law_696 ⟨(Nat.le_of_ble_eq_true rfl), (Nat.le_of_ble_eq_true rfl)⟩ ⟨hk, hz⟩ (fun H locs hP hS => ?_)
  refine lv_aload_n hx hb dL_law_699 rfl (lv_at hl 1 rfl) ?_
  refine lw_arg hK hS hl hi 1 (by decide) (by decide) dL_law_700 dL_law_701 dL_law_702 dL_law_703 dL_law_704 ?_
  refine lw_arg hK hS hl hi 2 (by decide) (by decide) dL_law_705 dL_law_706 dL_law_707 dL_law_708 dL_law_709 ?_
  refine lw_arg hK hS hl hi 3 (by decide) (by decide) dL_law_710 dL_law_711 dL_law_712 dL_law_713 dL_law_714 ?_
  refine g_callV (k := 101) (n := 3) (rest := [.int r]) hx hb hml hown ht (c_X10_settlement l G _ _ _ _ e2) m_926 m_927 m_928 m_41 m_929 ⟨rfl, by decide, by decide, by decide⟩ (by decide) gE_101 rfl hE hP hS hAd hA2 rfl hl.1 rfl (Nat.le_of_ble_eq_true rfl) dL_law_715 ⟨(Nat.le_of_ble_eq_true rfl), (Nat.le_of_ble_eq_true rfl)⟩ ⟨hk, hz⟩ (fun H locs hP hS => ?_)
  exact lv_icmp_eq (tgt := 1456) hx hb dL_law_718 (by decide) (fun _ => kk σ2 H locs hI2 hP hS) (fun c => absurd rfl c)
theorem lw_13 (hK : lw_K p s m c b L xs G k z) (hI : Inv σ) (hP : gW G σ H) (hS : va_S (lw_A s) s.heap H locs) (hl : lv_has ls 4 [(3, .int (nI i)), (2, .ref (G.2.2.1 101)), (1, .ref (G.2.2.1 0)), (0, .ref b)]) (hi : i + 8 ≤ L) (kk : ∀ (σ2 : gSt) (H : Heap) (locs : List Loc), Inv σ2 → gW G σ2 H → va_S (lw_A s) s.heap H locs → W p l e room_1 s m #[Value.ref b] below meth c H locs k z Q (F0 m 1456 ls [])) : W p l e room_1 s m #[Value.ref b] below meth c H locs k z Q (F0 m 723 ls []) := by
  obtain ⟨hx, hb, hml, hown, ht, hX, hbl, hE, hAd, hk, hz, hL⟩ := id hK
  have hA2 : ∀ q, q < s.heap.size → ¬ gA G q → ¬ lw_A s q := fun q h1 _ h2 => Nat.not_le.mpr h1 h2
  obtain ⟨r, σ1, σ2, e1, e2, hI2⟩ := t_through (xs (i + 1)) (xs (i + 2)) (xs (i + 3)) hI
  refine lv_aload_n hx hb dL_law_723 rfl (lv_at hl 2 rfl) ?_
  refine lw_arg hK hS hl hi 1 (by decide) (by decide) dL_law_724 dL_law_725 dL_law_726 dL_law_727 dL_law_728 ?_
  refine lw_arg hK hS hl hi 2 (by decide) (by decide) dL_law_729 dL_law_730 dL_law_731 dL_law_732 dL_law_733 ?_
  refine lw_arg hK hS hl hi 3 (by decide) (by decide) dL_law_734 dL_law_735 dL_law_736 dL_law_737 dL_law_738 ?_
  refine g_callV (k := 0) (n := 3) (rest := []) hx hb hml hown ht (c_X9_through l G _ _ _ _ e1) m_542 m_543 m_544 m_31 m_545 ⟨rfl, by decide, by decide, by decide⟩ (by decide) gE_0 rfl hE hP hS hAd hA2 rfl hl.1 rfl (Nat.le_of_ble_eq_true rfl) dL_law_739 ⟨(Nat.le_of_ble_eq_true rfl), (Nat.le_of_ble_eq_true rfl)⟩ ⟨hk, hz⟩ (fun H locs hP hS => ?_)
  refine lv_aload_n hx hb dL_law_742 rfl (lv_at hl 1 rfl) ?_
  refine lw_arg hK hS hl hi 1 (by decide) (by decide) dL_law_743 dL_law_744 dL_law_745 dL_law_746 dL_law_747 ?_
  refine lw_arg hK hS hl hi 2 (by decide) (by decide) dL_law_748 dL_law_749 dL_law_750 dL_law_751 dL_law_752 ?_
  refine lw_arg hK hS hl hi 3 (by decide) (by decide) dL_law_753 dL_law_754 dL_law_755 dL_law_756 dL_law_757 ?_
  refine g_callV (k := 101) (n := 3) (rest := [.int r]) hx hb hml hown ht (c_X10_through l G _ _ _ _ e2) m_938 m_939 m_940 m_41 m_941 ⟨rfl, by decide, by decide, by decide⟩ (by decide) gE_101 rfl hE hP hS hAd hA2 rfl hl.1 rfl (Nat.le_of_ble_eq_true rfl) dL_law_758 ⟨(Nat.le_of_ble_eq_true rfl), (Nat.le_of_ble_eq_true rfl)⟩ ⟨hk, hz⟩ (fun H locs hP hS => ?_)
  exact lv_icmp_eq (tgt := 1456) hx hb dL_law_761 (by decide) (fun _ => kk σ2 H locs hI2 hP hS) (fun c => absurd rfl c)
theorem lw_14 (hK : lw_K p s m c b L xs G k z) (hI : Inv σ) (hP : gW G σ H) (hS : va_S (lw_A s) s.heap H locs) (hl : lv_has ls 4 [(3, .int (nI i)), (2, .ref (G.2.2.1 101)), (1, .ref (G.2.2.1 0)), (0, .ref b)]) (hi : i + 8 ≤ L) (kk : ∀ (σ2 : gSt) (H : Heap) (locs : List Loc), Inv σ2 → gW G σ2 H → va_S (lw_A s) s.heap H locs → W p l e room_1 s m #[Value.ref b] below meth c H locs k z Q (F0 m 1456 ls [])) : W p l e room_1 s m #[Value.ref b] below meth c H locs k z Q (F0 m 766 ls []) := by
  obtain ⟨hx, hb, hml, hown, ht, hX, hbl, hE, hAd, hk, hz, hL⟩ := id hK
  have hA2 : ∀ q, q < s.heap.size → ¬ gA G q → ¬ lw_A s q := fun q h1 _ h2 => Nat.not_le.mpr h1 h2
  obtain ⟨r, σ1, σ2, e1, e2, hI2⟩ := t_could (xs (i + 1)) (xs (i + 2)) (xs (i + 3)) hI
  refine lv_aload_n hx hb dL_law_766 rfl (lv_at hl 2 rfl) ?_
  refine lw_arg hK hS hl hi 1 (by decide) (by decide) dL_law_767 dL_law_768 dL_law_769 dL_law_770 dL_law_771 ?_
  refine lw_arg hK hS hl hi 2 (by decide) (by decide) dL_law_772 dL_law_773 dL_law_774 dL_law_775 dL_law_776 ?_
  refine lw_arg hK hS hl hi 3 (by decide) (by decide) dL_law_777 dL_law_778 dL_law_779 dL_law_780 dL_law_781 ?_
  refine g_callV (k := 0) (n := 3) (rest := []) hx hb hml hown ht (c_X9_could l G _ _ _ _ e1) m_550 m_551 m_552 m_31 m_553 ⟨rfl, by decide, by decide, by decide⟩ (by decide) gE_0 rfl hE hP hS hAd hA2 rfl hl.1 rfl (Nat.le_of_ble_eq_true rfl) dL_law_782 ⟨(Nat.le_of_ble_eq_true rfl), (Nat.le_of_ble_eq_true rfl)⟩ ⟨hk, hz⟩ (fun H locs hP hS => ?_)
  refine lv_aload_n hx hb dL_law_785 rfl (lv_at hl 1 rfl) ?_
  refine lw_arg hK hS hl hi 1 (by decide) (by decide) dL_law_786 dL_law_787 dL_law_788 dL_law_789 dL_law_790 ?_
  refine lw_arg hK hS hl hi 2 (by decide) (by decide) dL_law_791 dL_law_792 dL_law_793 dL_law_794 dL_law_795 ?_
  refine lw_arg hK hS hl hi 3 (by decide) (by decide) dL_law_796 dL_law_797 dL_law_798 dL_law_799 dL_law_800 ?_
  refine g_callV (k := 101) (n := 3) (rest := [.int r]) hx hb hml hown ht (c_X10_could l G _ _ _ _ e2) m_942 m_943 m_944 m_41 m_945 ⟨rfl, by decide, by decide, by decide⟩ (by decide) gE_101 rfl hE hP hS hAd hA2 rfl hl.1 rfl (Nat.le_of_ble_eq_true rfl) dL_law_801 ⟨(Nat.le_of_ble_eq_true rfl), (Nat.le_of_ble_eq_true rfl)⟩ ⟨hk, hz⟩ (fun H locs hP hS => ?_)
  exact lv_icmp_eq (tgt := 1456) hx hb dL_law_804 (by decide) (fun _ => kk σ2 H locs hI2 hP hS) (fun c => absurd rfl c)
theorem lw_15 (hK : lw_K p s m c b L xs G k z) (hI : Inv σ) (hP : gW G σ H) (hS : va_S (lw_A s) s.heap H locs) (hl : lv_has ls 4 [(3, .int (nI i)), (2, .ref (G.2.2.1 101)), (1, .ref (G.2.2.1 0)), (0, .ref b)]) (hi : i + 8 ≤ L) (kk : ∀ (σ2 : gSt) (H : Heap) (locs : List Loc), Inv σ2 → gW G σ2 H → va_S (lw_A s) s.heap H locs → W p l e room_1 s m #[Value.ref b] below meth c H locs k z Q (F0 m 1456 ls [])) : W p l e room_1 s m #[Value.ref b] below meth c H locs k z Q (F0 m 809 ls []) := by
  obtain ⟨hx, hb, hml, hown, ht, hX, hbl, hE, hAd, hk, hz, hL⟩ := id hK
  have hA2 : ∀ q, q < s.heap.size → ¬ gA G q → ¬ lw_A s q := fun q h1 _ h2 => Nat.not_le.mpr h1 h2
  obtain ⟨r, σ1, σ2, e1, e2, hI2⟩ := t_question (xs (i + 1)) (xs (i + 2)) (xs (i + 3)) hI
  refine lv_aload_n hx hb dL_law_809 rfl (lv_at hl 2 rfl) ?_
  refine lw_arg hK hS hl hi 1 (by decide) (by decide) dL_law_810 dL_law_811 dL_law_812 dL_law_813 dL_law_814 ?_
  refine lw_arg hK hS hl hi 2 (by decide) (by decide) dL_law_815 dL_law_816 dL_law_817 dL_law_818 dL_law_819 ?_
  refine lw_arg hK hS hl hi 3 (by decide) (by decide) dL_law_820 dL_law_821 dL_law_822 dL_law_823 dL_law_824 ?_
  refine g_callV (k := 0) (n := 3) (rest := []) hx hb hml hown ht (c_X9_question l G _ _ _ _ e1) m_567 m_568 m_569 m_31 m_570 ⟨rfl, by decide, by decide, by decide⟩ (by decide) gE_0 rfl hE hP hS hAd hA2 rfl hl.1 rfl (Nat.le_of_ble_eq_true rfl) dL_law_825 ⟨(Nat.le_of_ble_eq_true rfl), (Nat.le_of_ble_eq_true rfl)⟩ ⟨hk, hz⟩ (fun H locs hP hS => ?_)
  refine lv_aload_n hx hb dL_law_828 rfl (lv_at hl 1 rfl) ?_
  refine lw_arg hK hS hl hi 1 (by decide) (by decide) dL_law_829 dL_law_830 dL_law_831 dL_law_832 dL_law_833 ?_
  refine lw_arg hK hS hl hi 2 (by decide) (by decide) dL_law_834 dL_law_835 dL_law_836 dL_law_837 dL_law_838 ?_
  refine lw_arg hK hS hl hi 3 (by decide) (by decide) dL_law_839 dL_law_840 dL_law_841 dL_law_842 dL_law_843 ?_
  refine g_callV (k := 101) (n := 3) (rest := [.int r]) hx hb hml hown ht (c_X10_question l G _ _ _ _ e2) m_950 m_951 m_952 m_41 m_953 ⟨rfl, by decide, by decide, by decide⟩ (by decide) gE_101 rfl hE hP hS hAd hA2 rfl hl.1 rfl (Nat.le_of_ble_eq_true rfl) dL_law_844 ⟨(Nat.le_of_ble_eq_true rfl), (Nat.le_of_ble_eq_true rfl)⟩ ⟨hk, hz⟩ (fun H locs hP hS => ?_)
  exact lv_icmp_eq (tgt := 1456) hx hb dL_law_847 (by decide) (fun _ => kk σ2 H locs hI2 hP hS) (fun c => absurd rfl c)
theorem lw_16 (hK : lw_K p s m c b L xs G k z) (hI : Inv σ) (hP : gW G σ H) (hS : va_S (lw_A s) s.heap H locs) (hl : lv_has ls 4 [(3, .int (nI i)), (2, .ref (G.2.2.1 101)), (1, .ref (G.2.2.1 0)), (0, .ref b)]) (hi : i + 8 ≤ L) (kk : ∀ (σ2 : gSt) (H : Heap) (locs : List Loc), Inv σ2 → gW G σ2 H → va_S (lw_A s) s.heap H locs → W p l e room_1 s m #[Value.ref b] below meth c H locs k z Q (F0 m 1456 ls [])) : W p l e room_1 s m #[Value.ref b] below meth c H locs k z Q (F0 m 852 ls []) := by
  obtain ⟨hx, hb, hml, hown, ht, hX, hbl, hE, hAd, hk, hz, hL⟩ := id hK
  have hA2 : ∀ q, q < s.heap.size → ¬ gA G q → ¬ lw_A s q := fun q h1 _ h2 => Nat.not_le.mpr h1 h2
  obtain ⟨r, σ1, σ2, e1, e2, hI2⟩ := t_order (xs (i + 1)) (xs (i + 2)) (xs (i + 3)) (xs (i + 4)) hI
  refine lv_aload_n hx hb dL_law_852 rfl (lv_at hl 2 rfl) ?_
  refine lw_arg hK hS hl hi 1 (by decide) (by decide) dL_law_853 dL_law_854 dL_law_855 dL_law_856 dL_law_857 ?_
  refine lw_arg hK hS hl hi 2 (by decide) (by decide) dL_law_858 dL_law_859 dL_law_860 dL_law_861 dL_law_862 ?_
  refine lw_arg hK hS hl hi 3 (by decide) (by decide) dL_law_863 dL_law_864 dL_law_865 dL_law_866 dL_law_867 ?_
  refine lw_arg hK hS hl hi 4 (by decide) (by decide) dL_law_868 dL_law_869 dL_law_870 dL_law_871 dL_law_872 ?_
  refine g_callV (k := 0) (n := 4) (rest := []) hx hb hml hown ht (c_X9_order l G _ _ _ _ _ e1) m_593 m_594 m_595 m_31 m_596 ⟨rfl, by decide, by decide, by decide⟩ (by decide) gE_0 rfl hE hP hS hAd hA2 rfl hl.1 rfl (Nat.le_of_ble_eq_true rfl) dL_law_873 ⟨(Nat.le_of_ble_eq_true rfl), (Nat.le_of_ble_eq_true rfl)⟩ ⟨hk, hz⟩ (fun H locs hP hS => ?_)
  refine lv_aload_n hx hb dL_law_876 rfl (lv_at hl 1 rfl) ?_
  refine lw_arg hK hS hl hi 1 (by decide) (by decide) dL_law_877 dL_law_878 dL_law_879 dL_law_880 dL_law_881 ?_
  refine lw_arg hK hS hl hi 2 (by decide) (by decide) dL_law_882 dL_law_883 dL_law_884 dL_law_885 dL_law_886 ?_
  refine lw_arg hK hS hl hi 3 (by decide) (by decide) dL_law_887 dL_law_888 dL_law_889 dL_law_890 dL_law_891 ?_
  refine lw_arg hK hS hl hi 4 (by decide) (by decide) dL_law_892 dL_law_893 dL_law_894 dL_law_895 dL_law_896 ?_
  refine g_callV (k := 101) (n := 4) (rest := [.int r]) hx hb hml hown ht (c_X10_order l G _ _ _ _ _ e2) m_958 m_959 m_960 m_41 m_961 ⟨rfl, by decide, by decide, by decide⟩ (by decide) gE_101 rfl hE hP hS hAd hA2 rfl hl.1 rfl (Nat.le_of_ble_eq_true rfl) dL_law_897 ⟨(Nat.le_of_ble_eq_true rfl), (Nat.le_of_ble_eq_true rfl)⟩ ⟨hk, hz⟩ (fun H locs hP hS => ?_)
  exact lv_icmp_eq (tgt := 1456) hx hb dL_law_900 (by decide) (fun _ => kk σ2 H locs hI2 hP hS) (fun c => absurd rfl c)
theorem lw_17 (hK : lw_K p s m c b L xs G k z) (hI : Inv σ) (hP : gW G σ H) (hS : va_S (lw_A s) s.heap H locs) (hl : lv_has ls 4 [(3, .int (nI i)), (2, .ref (G.2.2.1 101)), (1, .ref (G.2.2.1 0)), (0, .ref b)]) (hi : i + 8 ≤ L) (kk : ∀ (σ2 : gSt) (H : Heap) (locs : List Loc), Inv σ2 → gW G σ2 H → va_S (lw_A s) s.heap H locs → W p l e room_1 s m #[Value.ref b] below meth c H locs k z Q (F0 m 1456 ls [])) : W p l e room_1 s m #[Value.ref b] below meth c H locs k z Q (F0 m 905 ls []) := by
  obtain ⟨hx, hb, hml, hown, ht, hX, hbl, hE, hAd, hk, hz, hL⟩ := id hK
  have hA2 : ∀ q, q < s.heap.size → ¬ gA G q → ¬ lw_A s q := fun q h1 _ h2 => Nat.not_le.mpr h1 h2
  obtain ⟨r, σ1, σ2, e1, e2, hI2⟩ := t_appeal (xs (i + 1)) (xs (i + 2)) hI
  refine lv_aload_n hx hb dL_law_905 rfl (lv_at hl 2 rfl) ?_
  refine lw_arg hK hS hl hi 1 (by decide) (by decide) dL_law_906 dL_law_907 dL_law_908 dL_law_909 dL_law_910 ?_
  refine lw_arg hK hS hl hi 2 (by decide) (by decide) dL_law_911 dL_law_912 dL_law_913 dL_law_914 dL_law_915 ?_
  refine g_callV (k := 0) (n := 2) (rest := []) hx hb hml hown ht (c_X9_appeal l G _ _ _ e1) m_601 m_602 m_603 m_31 m_604 ⟨rfl, by decide, by decide, by decide⟩ (by decide) gE_0 rfl hE hP hS hAd hA2 rfl hl.1 rfl (Nat.le_of_ble_eq_true rfl) dL_law_916 ⟨(Nat.le_of_ble_eq_true rfl), (Nat.le_of_ble_eq_true rfl)⟩ ⟨hk, hz⟩ (fun H locs hP hS => ?_)
  refine lv_aload_n hx hb dL_law_919 rfl (lv_at hl 1 rfl) ?_
  refine lw_arg hK hS hl hi 1 (by decide) (by decide) dL_law_920 dL_law_921 dL_law_922 dL_law_923 dL_law_924 ?_
  refine lw_arg hK hS hl hi 2 (by decide) (by decide) dL_law_925 dL_law_926 dL_law_927 dL_law_928 dL_law_929 ?_
  refine g_callV (k := 101) (n := 2) (rest := [.int r]) hx hb hml hown ht (c_X10_appeal l G _ _ _ e2) m_962 m_963 m_964 m_41 m_965 ⟨rfl, by decide, by decide, by decide⟩ (by decide) gE_101 rfl hE hP hS hAd hA2 rfl hl.1 rfl (Nat.le_of_ble_eq_true rfl) dL_law_930 ⟨(Nat.le_of_ble_eq_true rfl), (Nat.le_of_ble_eq_true rfl)⟩ ⟨hk, hz⟩ (fun H locs hP hS => ?_)
  exact lv_icmp_eq (tgt := 1456) hx hb dL_law_933 (by decide) (fun _ => kk σ2 H locs hI2 hP hS) (fun c => absurd rfl c)
theorem lw_18 (hK : lw_K p s m c b L xs G k z) (hI : Inv σ) (hP : gW G σ H) (hS : va_S (lw_A s) s.heap H locs) (hl : lv_has ls 4 [(3, .int (nI i)), (2, .ref (G.2.2.1 101)), (1, .ref (G.2.2.1 0)), (0, .ref b)]) (hi : i + 8 ≤ L) (kk : ∀ (σ2 : gSt) (H : Heap) (locs : List Loc), Inv σ2 → gW G σ2 H → va_S (lw_A s) s.heap H locs → W p l e room_1 s m #[Value.ref b] below meth c H locs k z Q (F0 m 1456 ls [])) : W p l e room_1 s m #[Value.ref b] below meth c H locs k z Q (F0 m 938 ls []) := by
  obtain ⟨hx, hb, hml, hown, ht, hX, hbl, hE, hAd, hk, hz, hL⟩ := id hK
  have hA2 : ∀ q, q < s.heap.size → ¬ gA G q → ¬ lw_A s q := fun q h1 _ h2 => Nat.not_le.mpr h1 h2
  obtain ⟨r, σ1, σ2, e1, e2, hI2⟩ := t_ordered (xs (i + 1)) (xs (i + 2)) hI
  refine lv_aload_n hx hb dL_law_938 rfl (lv_at hl 2 rfl) ?_
  refine lw_arg hK hS hl hi 1 (by decide) (by decide) dL_law_939 dL_law_940 dL_law_941 dL_law_942 dL_law_943 ?_
  refine lw_arg hK hS hl hi 2 (by decide) (by decide) dL_law_944 dL_law_945 dL_law_946 dL_law_947 dL_law_948 ?_
  refine g_callV (k := 0) (n := 2) (rest := []) hx hb hml hown ht (c_X9_ordered l G _ _ _ e1) m_610 m_611 m_612 m_31 m_613 ⟨rfl, by decide, by decide, by decide⟩ (by decide) gE_0 rfl hE hP hS hAd hA2 rfl hl.1 rfl (Nat.le_of_ble_eq_true rfl) dL_law_949 ⟨(Nat.le_of_ble_eq_true rfl), (Nat.le_of_ble_eq_true rfl)⟩ ⟨hk, hz⟩ (fun H locs hP hS => ?_)
  refine lv_aload_n hx hb dL_law_952 rfl (lv_at hl 1 rfl) ?_
  refine lw_arg hK hS hl hi 1 (by decide) (by decide) dL_law_953 dL_law_954 dL_law_955 dL_law_956 dL_law_957 ?_
  refine lw_arg hK hS hl hi 2 (by decide) (by decide) dL_law_958 dL_law_959 dL_law_960 dL_law_961 dL_law_962 ?_
  refine g_callV (k := 101) (n := 2) (rest := [.int r]) hx hb hml hown ht (c_X10_ordered l G _ _ _ e2) m_971 m_972 m_973 m_41 m_974 ⟨rfl, by decide, by decide, by decide⟩ (by decide) gE_101 rfl hE hP hS hAd hA2 rfl hl.1 rfl (Nat.le_of_ble_eq_true rfl) dL_law_963 ⟨(Nat.le_of_ble_eq_true rfl), (Nat.le_of_ble_eq_true rfl)⟩ ⟨hk, hz⟩ (fun H locs hP hS => ?_)
  exact lv_icmp_eq (tgt := 1456) hx hb dL_law_966 (by decide) (fun _ => kk σ2 H locs hI2 hP hS) (fun c => absurd rfl c)
theorem lw_19 (hK : lw_K p s m c b L xs G k z) (hI : Inv σ) (hP : gW G σ H) (hS : va_S (lw_A s) s.heap H locs) (hl : lv_has ls 4 [(3, .int (nI i)), (2, .ref (G.2.2.1 101)), (1, .ref (G.2.2.1 0)), (0, .ref b)]) (hi : i + 8 ≤ L) (kk : ∀ (σ2 : gSt) (H : Heap) (locs : List Loc), Inv σ2 → gW G σ2 H → va_S (lw_A s) s.heap H locs → W p l e room_1 s m #[Value.ref b] below meth c H locs k z Q (F0 m 1456 ls [])) : W p l e room_1 s m #[Value.ref b] below meth c H locs k z Q (F0 m 971 ls []) := by
  obtain ⟨hx, hb, hml, hown, ht, hX, hbl, hE, hAd, hk, hz, hL⟩ := id hK
  have hA2 : ∀ q, q < s.heap.size → ¬ gA G q → ¬ lw_A s q := fun q h1 _ h2 => Nat.not_le.mpr h1 h2
  obtain ⟨r, σ1, σ2, e1, e2, hI2⟩ := t_costs (xs (i + 1)) hI
  refine lv_aload_n hx hb dL_law_971 rfl (lv_at hl 2 rfl) ?_
  refine lw_arg hK hS hl hi 1 (by decide) (by decide) dL_law_972 dL_law_973 dL_law_974 dL_law_975 dL_law_976 ?_
  refine g_callV (k := 0) (n := 1) (rest := []) hx hb hml hown ht (c_X9_costs l G _ _ e1) m_614 m_615 m_616 m_31 m_617 ⟨rfl, by decide, by decide, by decide⟩ (by decide) gE_0 rfl hE hP hS hAd hA2 rfl hl.1 rfl (Nat.le_of_ble_eq_true rfl) dL_law_977 ⟨(Nat.le_of_ble_eq_true rfl), (Nat.le_of_ble_eq_true rfl)⟩ ⟨hk, hz⟩ (fun H locs hP hS => ?_)
  refine lv_aload_n hx hb dL_law_980 rfl (lv_at hl 1 rfl) ?_
  refine lw_arg hK hS hl hi 1 (by decide) (by decide) dL_law_981 dL_law_982 dL_law_983 dL_law_984 dL_law_985 ?_
  refine g_callV (k := 101) (n := 1) (rest := [.int r]) hx hb hml hown ht (c_X10_costs l G _ _ e2) m_975 m_976 m_977 m_41 m_978 ⟨rfl, by decide, by decide, by decide⟩ (by decide) gE_101 rfl hE hP hS hAd hA2 rfl hl.1 rfl (Nat.le_of_ble_eq_true rfl) dL_law_986 ⟨(Nat.le_of_ble_eq_true rfl), (Nat.le_of_ble_eq_true rfl)⟩ ⟨hk, hz⟩ (fun H locs hP hS => ?_)
  exact lv_icmp_eq (tgt := 1456) hx hb dL_law_989 (by decide) (fun _ => kk σ2 H locs hI2 hP hS) (fun c => absurd rfl c)
theorem lw_20 (hK : lw_K p s m c b L xs G k z) (hI : Inv σ) (hP : gW G σ H) (hS : va_S (lw_A s) s.heap H locs) (hl : lv_has ls 4 [(3, .int (nI i)), (2, .ref (G.2.2.1 101)), (1, .ref (G.2.2.1 0)), (0, .ref b)]) (hi : i + 8 ≤ L) (kk : ∀ (σ2 : gSt) (H : Heap) (locs : List Loc), Inv σ2 → gW G σ2 H → va_S (lw_A s) s.heap H locs → W p l e room_1 s m #[Value.ref b] below meth c H locs k z Q (F0 m 1456 ls [])) : W p l e room_1 s m #[Value.ref b] below meth c H locs k z Q (F0 m 994 ls []) := by
  obtain ⟨hx, hb, hml, hown, ht, hX, hbl, hE, hAd, hk, hz, hL⟩ := id hK
  have hA2 : ∀ q, q < s.heap.size → ¬ gA G q → ¬ lw_A s q := fun q h1 _ h2 => Nat.not_le.mpr h1 h2
  obtain ⟨r, σ1, σ2, e1, e2, hI2⟩ := t_setC (xs (i + 1)) (xs (i + 2)) hI
  refine lv_aload_n hx hb dL_law_994 rfl (lv_at hl 2 rfl) ?_
  refine lw_arg hK hS hl hi 1 (by decide) (by decide) dL_law_995 dL_law_996 dL_law_997 dL_law_998 dL_law_999 ?_
  refine lw_arg hK hS hl hi 2 (by decide) (by decide) dL_law_1000 dL_law_1001 dL_law_1002 dL_law_1003 dL_law_1004 ?_
  refine g_callV (k := 0) (n := 2) (rest := []) hx hb hml hown ht (c_X9_set l G _ _ _ e1) m_622 m_623 m_624 m_31 m_625 ⟨rfl, by decide, by decide, by decide⟩ (by decide) gE_0 rfl hE hP hS hAd hA2 rfl hl.1 rfl (Nat.le_of_ble_eq_true rfl) dL_law_1005 ⟨(Nat.le_of_ble_eq_true rfl), (Nat.le_of_ble_eq_true rfl)⟩ ⟨hk, hz⟩ (fun H locs hP hS => ?_)
  refine lv_aload_n hx hb dL_law_1008 rfl (lv_at hl 1 rfl) ?_
  refine lw_arg hK hS hl hi 1 (by decide) (by decide) dL_law_1009 dL_law_1010 dL_law_1011 dL_law_1012 dL_law_1013 ?_
  refine lw_arg hK hS hl hi 2 (by decide) (by decide) dL_law_1014 dL_law_1015 dL_law_1016 dL_law_1017 dL_law_1018 ?_
  refine g_callV (k := 101) (n := 2) (rest := [.int r]) hx hb hml hown ht (c_X10_set l G _ _ _ e2) m_979 m_980 m_981 m_41 m_982 ⟨rfl, by decide, by decide, by decide⟩ (by decide) gE_101 rfl hE hP hS hAd hA2 rfl hl.1 rfl (Nat.le_of_ble_eq_true rfl) dL_law_1019 ⟨(Nat.le_of_ble_eq_true rfl), (Nat.le_of_ble_eq_true rfl)⟩ ⟨hk, hz⟩ (fun H locs hP hS => ?_)
  exact lv_icmp_eq (tgt := 1456) hx hb dL_law_1022 (by decide) (fun _ => kk σ2 H locs hI2 hP hS) (fun c => absurd rfl c)
theorem lw_21 (hK : lw_K p s m c b L xs G k z) (hI : Inv σ) (hP : gW G σ H) (hS : va_S (lw_A s) s.heap H locs) (hl : lv_has ls 4 [(3, .int (nI i)), (2, .ref (G.2.2.1 101)), (1, .ref (G.2.2.1 0)), (0, .ref b)]) (hi : i + 8 ≤ L) (kk : ∀ (σ2 : gSt) (H : Heap) (locs : List Loc), Inv σ2 → gW G σ2 H → va_S (lw_A s) s.heap H locs → W p l e room_1 s m #[Value.ref b] below meth c H locs k z Q (F0 m 1456 ls [])) : W p l e room_1 s m #[Value.ref b] below meth c H locs k z Q (F0 m 1027 ls []) := by
  obtain ⟨hx, hb, hml, hown, ht, hX, hbl, hE, hAd, hk, hz, hL⟩ := id hK
  have hA2 : ∀ q, q < s.heap.size → ¬ gA G q → ¬ lw_A s q := fun q h1 _ h2 => Nat.not_le.mpr h1 h2
  obtain ⟨r, σ1, σ2, e1, e2, hI2⟩ := t_list (xs (i + 1)) (xs (i + 2)) (xs (i + 3)) hI
  refine lv_aload_n hx hb dL_law_1027 rfl (lv_at hl 2 rfl) ?_
  refine lw_arg hK hS hl hi 1 (by decide) (by decide) dL_law_1028 dL_law_1029 dL_law_1030 dL_law_1031 dL_law_1032 ?_
  refine lw_arg hK hS hl hi 2 (by decide) (by decide) dL_law_1033 dL_law_1034 dL_law_1035 dL_law_1036 dL_law_1037 ?_
  refine lw_arg hK hS hl hi 3 (by decide) (by decide) dL_law_1038 dL_law_1039 dL_law_1040 dL_law_1041 dL_law_1042 ?_
  refine g_callV (k := 0) (n := 3) (rest := []) hx hb hml hown ht (c_X9_list l G _ _ _ _ e1) m_626 m_627 m_628 m_31 m_629 ⟨rfl, by decide, by decide, by decide⟩ (by decide) gE_0 rfl hE hP hS hAd hA2 rfl hl.1 rfl (Nat.le_of_ble_eq_true rfl) dL_law_1043 ⟨(Nat.le_of_ble_eq_true rfl), (Nat.le_of_ble_eq_true rfl)⟩ ⟨hk, hz⟩ (fun H locs hP hS => ?_)
  refine lv_aload_n hx hb dL_law_1046 rfl (lv_at hl 1 rfl) ?_
  refine lw_arg hK hS hl hi 1 (by decide) (by decide) dL_law_1047 dL_law_1048 dL_law_1049 dL_law_1050 dL_law_1051 ?_
  refine lw_arg hK hS hl hi 2 (by decide) (by decide) dL_law_1052 dL_law_1053 dL_law_1054 dL_law_1055 dL_law_1056 ?_
  refine lw_arg hK hS hl hi 3 (by decide) (by decide) dL_law_1057 dL_law_1058 dL_law_1059 dL_law_1060 dL_law_1061 ?_
  refine g_callV (k := 101) (n := 3) (rest := [.int r]) hx hb hml hown ht (c_X10_list l G _ _ _ _ e2) m_983 m_984 m_985 m_41 m_986 ⟨rfl, by decide, by decide, by decide⟩ (by decide) gE_101 rfl hE hP hS hAd hA2 rfl hl.1 rfl (Nat.le_of_ble_eq_true rfl) dL_law_1062 ⟨(Nat.le_of_ble_eq_true rfl), (Nat.le_of_ble_eq_true rfl)⟩ ⟨hk, hz⟩ (fun H locs hP hS => ?_)
  exact lv_icmp_eq (tgt := 1456) hx hb dL_law_1065 (by decide) (fun _ => kk σ2 H locs hI2 hP hS) (fun c => absurd rfl c)
theorem lw_22 (hK : lw_K p s m c b L xs G k z) (hI : Inv σ) (hP : gW G σ H) (hS : va_S (lw_A s) s.heap H locs) (hl : lv_has ls 4 [(3, .int (nI i)), (2, .ref (G.2.2.1 101)), (1, .ref (G.2.2.1 0)), (0, .ref b)]) (hi : i + 8 ≤ L) (kk : ∀ (σ2 : gSt) (H : Heap) (locs : List Loc), Inv σ2 → gW G σ2 H → va_S (lw_A s) s.heap H locs → W p l e room_1 s m #[Value.ref b] below meth c H locs k z Q (F0 m 1456 ls [])) : W p l e room_1 s m #[Value.ref b] below meth c H locs k z Q (F0 m 1070 ls []) := by
  obtain ⟨hx, hb, hml, hown, ht, hX, hbl, hE, hAd, hk, hz, hL⟩ := id hK
  have hA2 : ∀ q, q < s.heap.size → ¬ gA G q → ¬ lw_A s q := fun q h1 _ h2 => Nat.not_le.mpr h1 h2
  obtain ⟨r, σ1, σ2, e1, e2, hI2⟩ := t_earns (xs (i + 1)) (xs (i + 2)) hI
  refine lv_aload_n hx hb dL_law_1070 rfl (lv_at hl 2 rfl) ?_
  refine lw_arg hK hS hl hi 1 (by decide) (by decide) dL_law_1071 dL_law_1072 dL_law_1073 dL_law_1074 dL_law_1075 ?_
  refine lw_arg hK hS hl hi 2 (by decide) (by decide) dL_law_1076 dL_law_1077 dL_law_1078 dL_law_1079 dL_law_1080 ?_
  refine g_callV (k := 0) (n := 2) (rest := []) hx hb hml hown ht (c_X9_earns l G _ _ _ e1) m_633 m_634 m_635 m_31 m_636 ⟨rfl, by decide, by decide, by decide⟩ (by decide) gE_0 rfl hE hP hS hAd hA2 rfl hl.1 rfl (Nat.le_of_ble_eq_true rfl) dL_law_1081 ⟨(Nat.le_of_ble_eq_true rfl), (Nat.le_of_ble_eq_true rfl)⟩ ⟨hk, hz⟩ (fun H locs hP hS => ?_)
  refine lv_aload_n hx hb dL_law_1084 rfl (lv_at hl 1 rfl) ?_
  refine lw_arg hK hS hl hi 1 (by decide) (by decide) dL_law_1085 dL_law_1086 dL_law_1087 dL_law_1088 dL_law_1089 ?_
  refine lw_arg hK hS hl hi 2 (by decide) (by decide) dL_law_1090 dL_law_1091 dL_law_1092 dL_law_1093 dL_law_1094 ?_
  refine g_callV (k := 101) (n := 2) (rest := [.int r]) hx hb hml hown ht (c_X10_earns l G _ _ _ e2) m_990 m_991 m_992 m_41 m_993 ⟨rfl, by decide, by decide, by decide⟩ (by decide) gE_101 rfl hE hP hS hAd hA2 rfl hl.1 rfl (Nat.le_of_ble_eq_true rfl) dL_law_1095 ⟨(Nat.le_of_ble_eq_true rfl), (Nat.le_of_ble_eq_true rfl)⟩ ⟨hk, hz⟩ (fun H locs hP hS => ?_)
  exact lv_icmp_eq (tgt := 1456) hx hb dL_law_1098 (by decide) (fun _ => kk σ2 H locs hI2 hP hS) (fun c => absurd rfl c)
theorem lw_23 (hK : lw_K p s m c b L xs G k z) (hI : Inv σ) (hP : gW G σ H) (hS : va_S (lw_A s) s.heap H locs) (hl : lv_has ls 4 [(3, .int (nI i)), (2, .ref (G.2.2.1 101)), (1, .ref (G.2.2.1 0)), (0, .ref b)]) (hi : i + 8 ≤ L) (kk : ∀ (σ2 : gSt) (H : Heap) (locs : List Loc), Inv σ2 → gW G σ2 H → va_S (lw_A s) s.heap H locs → W p l e room_1 s m #[Value.ref b] below meth c H locs k z Q (F0 m 1456 ls [])) : W p l e room_1 s m #[Value.ref b] below meth c H locs k z Q (F0 m 1103 ls []) := by
  obtain ⟨hx, hb, hml, hown, ht, hX, hbl, hE, hAd, hk, hz, hL⟩ := id hK
  have hA2 : ∀ q, q < s.heap.size → ¬ gA G q → ¬ lw_A s q := fun q h1 _ h2 => Nat.not_le.mpr h1 h2
  obtain ⟨r, σ1, σ2, e1, e2, hI2⟩ := t_price (xs (i + 1)) (xs (i + 2)) hI
  refine lv_aload_n hx hb dL_law_1103 rfl (lv_at hl 2 rfl) ?_
  refine lw_arg hK hS hl hi 1 (by decide) (by decide) dL_law_1104 dL_law_1105 dL_law_1106 dL_law_1107 dL_law_1108 ?_
  refine lw_arg hK hS hl hi 2 (by decide) (by decide) dL_law_1109 dL_law_1110 dL_law_1111 dL_law_1112 dL_law_1113 ?_
  refine g_callV (k := 0) (n := 2) (rest := []) hx hb hml hown ht (c_X9_price l G _ _ _ e1) m_637 m_638 m_639 m_31 m_640 ⟨rfl, by decide, by decide, by decide⟩ (by decide) gE_0 rfl hE hP hS hAd hA2 rfl hl.1 rfl (Nat.le_of_ble_eq_true rfl) dL_law_1114 ⟨(Nat.le_of_ble_eq_true rfl), (Nat.le_of_ble_eq_true rfl)⟩ ⟨hk, hz⟩ (fun H locs hP hS => ?_)
  refine lv_aload_n hx hb dL_law_1117 rfl (lv_at hl 1 rfl) ?_
  refine lw_arg hK hS hl hi 1 (by decide) (by decide) dL_law_1118 dL_law_1119 dL_law_1120 dL_law_1121 dL_law_1122 ?_
  refine lw_arg hK hS hl hi 2 (by decide) (by decide) dL_law_1123 dL_law_1124 dL_law_1125 dL_law_1126 dL_law_1127 ?_
  refine g_callV (k := 101) (n := 2) (rest := [.int r]) hx hb hml hown ht (c_X10_price l G _ _ _ e2) m_994 m_995 m_996 m_41 m_997 ⟨rfl, by decide, by decide, by decide⟩ (by decide) gE_101 rfl hE hP hS hAd hA2 rfl hl.1 rfl (Nat.le_of_ble_eq_true rfl) dL_law_1128 ⟨(Nat.le_of_ble_eq_true rfl), (Nat.le_of_ble_eq_true rfl)⟩ ⟨hk, hz⟩ (fun H locs hP hS => ?_)
  exact lv_icmp_eq (tgt := 1456) hx hb dL_law_1131 (by decide) (fun _ => kk σ2 H locs hI2 hP hS) (fun c => absurd rfl c)
theorem lw_24 (hK : lw_K p s m c b L xs G k z) (hI : Inv σ) (hP : gW G σ H) (hS : va_S (lw_A s) s.heap H locs) (hl : lv_has ls 4 [(3, .int (nI i)), (2, .ref (G.2.2.1 101)), (1, .ref (G.2.2.1 0)), (0, .ref b)]) (hi : i + 8 ≤ L) (kk : ∀ (σ2 : gSt) (H : Heap) (locs : List Loc), Inv σ2 → gW G σ2 H → va_S (lw_A s) s.heap H locs → W p l e room_1 s m #[Value.ref b] below meth c H locs k z Q (F0 m 1456 ls [])) : W p l e room_1 s m #[Value.ref b] below meth c H locs k z Q (F0 m 1136 ls []) := by
  obtain ⟨hx, hb, hml, hown, ht, hX, hbl, hE, hAd, hk, hz, hL⟩ := id hK
  have hA2 : ∀ q, q < s.heap.size → ¬ gA G q → ¬ lw_A s q := fun q h1 _ h2 => Nat.not_le.mpr h1 h2
  obtain ⟨r, σ1, σ2, e1, e2, hI2⟩ := t_relief (xs (i + 1)) (xs (i + 2)) hI
  refine lv_aload_n hx hb dL_law_1136 rfl (lv_at hl 2 rfl) ?_
  refine lw_arg hK hS hl hi 1 (by decide) (by decide) dL_law_1137 dL_law_1138 dL_law_1139 dL_law_1140 dL_law_1141 ?_
  refine lw_arg hK hS hl hi 2 (by decide) (by decide) dL_law_1142 dL_law_1143 dL_law_1144 dL_law_1145 dL_law_1146 ?_
  refine g_callV (k := 0) (n := 2) (rest := []) hx hb hml hown ht (c_X9_relief l G _ _ _ e1) m_641 m_642 m_643 m_31 m_644 ⟨rfl, by decide, by decide, by decide⟩ (by decide) gE_0 rfl hE hP hS hAd hA2 rfl hl.1 rfl (Nat.le_of_ble_eq_true rfl) dL_law_1147 ⟨(Nat.le_of_ble_eq_true rfl), (Nat.le_of_ble_eq_true rfl)⟩ ⟨hk, hz⟩ (fun H locs hP hS => ?_)
  refine lv_aload_n hx hb dL_law_1150 rfl (lv_at hl 1 rfl) ?_
  refine lw_arg hK hS hl hi 1 (by decide) (by decide) dL_law_1151 dL_law_1152 dL_law_1153 dL_law_1154 dL_law_1155 ?_
  refine lw_arg hK hS hl hi 2 (by decide) (by decide) dL_law_1156 dL_law_1157 dL_law_1158 dL_law_1159 dL_law_1160 ?_
  refine g_callV (k := 101) (n := 2) (rest := [.int r]) hx hb hml hown ht (c_X10_relief l G _ _ _ e2) m_998 m_999 m_1000 m_41 m_1001 ⟨rfl, by decide, by decide, by decide⟩ (by decide) gE_101 rfl hE hP hS hAd hA2 rfl hl.1 rfl (Nat.le_of_ble_eq_true rfl) dL_law_1161 ⟨(Nat.le_of_ble_eq_true rfl), (Nat.le_of_ble_eq_true rfl)⟩ ⟨hk, hz⟩ (fun H locs hP hS => ?_)
  exact lv_icmp_eq (tgt := 1456) hx hb dL_law_1164 (by decide) (fun _ => kk σ2 H locs hI2 hP hS) (fun c => absurd rfl c)
theorem lw_25 (hK : lw_K p s m c b L xs G k z) (hI : Inv σ) (hP : gW G σ H) (hS : va_S (lw_A s) s.heap H locs) (hl : lv_has ls 4 [(3, .int (nI i)), (2, .ref (G.2.2.1 101)), (1, .ref (G.2.2.1 0)), (0, .ref b)]) (hi : i + 8 ≤ L) (kk : ∀ (σ2 : gSt) (H : Heap) (locs : List Loc), Inv σ2 → gW G σ2 H → va_S (lw_A s) s.heap H locs → W p l e room_1 s m #[Value.ref b] below meth c H locs k z Q (F0 m 1456 ls [])) : W p l e room_1 s m #[Value.ref b] below meth c H locs k z Q (F0 m 1169 ls []) := by
  obtain ⟨hx, hb, hml, hown, ht, hX, hbl, hE, hAd, hk, hz, hL⟩ := id hK
  have hA2 : ∀ q, q < s.heap.size → ¬ gA G q → ¬ lw_A s q := fun q h1 _ h2 => Nat.not_le.mpr h1 h2
  obtain ⟨r, σ1, σ2, e1, e2, hI2⟩ := t_week (xs (i + 1)) (xs (i + 2)) hI
  refine lv_aload_n hx hb dL_law_1169 rfl (lv_at hl 2 rfl) ?_
  refine lw_arg hK hS hl hi 1 (by decide) (by decide) dL_law_1170 dL_law_1171 dL_law_1172 dL_law_1173 dL_law_1174 ?_
  refine lw_arg hK hS hl hi 2 (by decide) (by decide) dL_law_1175 dL_law_1176 dL_law_1177 dL_law_1178 dL_law_1179 ?_
  refine g_callV (k := 0) (n := 2) (rest := []) hx hb hml hown ht (c_X9_week l G _ _ _ e1) m_665 m_666 m_667 m_31 m_668 ⟨rfl, by decide, by decide, by decide⟩ (by decide) gE_0 rfl hE hP hS hAd hA2 rfl hl.1 rfl (Nat.le_of_ble_eq_true rfl) dL_law_1180 ⟨(Nat.le_of_ble_eq_true rfl), (Nat.le_of_ble_eq_true rfl)⟩ ⟨hk, hz⟩ (fun H locs hP hS => ?_)
  refine lv_aload_n hx hb dL_law_1183 rfl (lv_at hl 1 rfl) ?_
  refine lw_arg hK hS hl hi 1 (by decide) (by decide) dL_law_1184 dL_law_1185 dL_law_1186 dL_law_1187 dL_law_1188 ?_
  refine lw_arg hK hS hl hi 2 (by decide) (by decide) dL_law_1189 dL_law_1190 dL_law_1191 dL_law_1192 dL_law_1193 ?_
  refine g_callV (k := 101) (n := 2) (rest := [.int r]) hx hb hml hown ht (c_X10_week l G _ _ _ e2) m_1015 m_1016 m_1017 m_41 m_1018 ⟨rfl, by decide, by decide, by decide⟩ (by decide) gE_101 rfl hE hP hS hAd hA2 rfl hl.1 rfl (Nat.le_of_ble_eq_true rfl) dL_law_1194 ⟨(Nat.le_of_ble_eq_true rfl), (Nat.le_of_ble_eq_true rfl)⟩ ⟨hk, hz⟩ (fun H locs hP hS => ?_)
  exact lv_icmp_eq (tgt := 1456) hx hb dL_law_1197 (by decide) (fun _ => kk σ2 H locs hI2 hP hS) (fun c => absurd rfl c)
theorem lw_26 (hK : lw_K p s m c b L xs G k z) (hI : Inv σ) (hP : gW G σ H) (hS : va_S (lw_A s) s.heap H locs) (hl : lv_has ls 4 [(3, .int (nI i)), (2, .ref (G.2.2.1 101)), (1, .ref (G.2.2.1 0)), (0, .ref b)]) (hi : i + 8 ≤ L) (kk : ∀ (σ2 : gSt) (H : Heap) (locs : List Loc), Inv σ2 → gW G σ2 H → va_S (lw_A s) s.heap H locs → W p l e room_1 s m #[Value.ref b] below meth c H locs k z Q (F0 m 1456 ls [])) : W p l e room_1 s m #[Value.ref b] below meth c H locs k z Q (F0 m 1202 ls []) := by
  obtain ⟨hx, hb, hml, hown, ht, hX, hbl, hE, hAd, hk, hz, hL⟩ := id hK
  have hA2 : ∀ q, q < s.heap.size → ¬ gA G q → ¬ lw_A s q := fun q h1 _ h2 => Nat.not_le.mpr h1 h2
  obtain ⟨r, σ1, σ2, e1, e2, hI2⟩ := t_rate (xs (i + 1)) (xs (i + 2)) hI
  refine lv_aload_n hx hb dL_law_1202 rfl (lv_at hl 2 rfl) ?_
  refine lw_arg hK hS hl hi 1 (by decide) (by decide) dL_law_1203 dL_law_1204 dL_law_1205 dL_law_1206 dL_law_1207 ?_
  refine lw_arg hK hS hl hi 2 (by decide) (by decide) dL_law_1208 dL_law_1209 dL_law_1210 dL_law_1211 dL_law_1212 ?_
  refine g_callV (k := 0) (n := 2) (rest := []) hx hb hml hown ht (c_X9_rate l G _ _ _ e1) m_674 m_675 m_676 m_31 m_677 ⟨rfl, by decide, by decide, by decide⟩ (by decide) gE_0 rfl hE hP hS hAd hA2 rfl hl.1 rfl (Nat.le_of_ble_eq_true rfl) dL_law_1213 ⟨(Nat.le_of_ble_eq_true rfl), (Nat.le_of_ble_eq_true rfl)⟩ ⟨hk, hz⟩ (fun H locs hP hS => ?_)
  refine lv_aload_n hx hb dL_law_1216 rfl (lv_at hl 1 rfl) ?_
  refine lw_arg hK hS hl hi 1 (by decide) (by decide) dL_law_1217 dL_law_1218 dL_law_1219 dL_law_1220 dL_law_1221 ?_
  refine lw_arg hK hS hl hi 2 (by decide) (by decide) dL_law_1222 dL_law_1223 dL_law_1224 dL_law_1225 dL_law_1226 ?_
  refine g_callV (k := 101) (n := 2) (rest := [.int r]) hx hb hml hown ht (c_X10_rate l G _ _ _ e2) m_1019 m_1020 m_1021 m_41 m_1022 ⟨rfl, by decide, by decide, by decide⟩ (by decide) gE_101 rfl hE hP hS hAd hA2 rfl hl.1 rfl (Nat.le_of_ble_eq_true rfl) dL_law_1227 ⟨(Nat.le_of_ble_eq_true rfl), (Nat.le_of_ble_eq_true rfl)⟩ ⟨hk, hz⟩ (fun H locs hP hS => ?_)
  exact lv_icmp_eq (tgt := 1456) hx hb dL_law_1230 (by decide) (fun _ => kk σ2 H locs hI2 hP hS) (fun c => absurd rfl c)
theorem lw_27 (hK : lw_K p s m c b L xs G k z) (hI : Inv σ) (hP : gW G σ H) (hS : va_S (lw_A s) s.heap H locs) (hl : lv_has ls 4 [(3, .int (nI i)), (2, .ref (G.2.2.1 101)), (1, .ref (G.2.2.1 0)), (0, .ref b)]) (hi : i + 8 ≤ L) (kk : ∀ (σ2 : gSt) (H : Heap) (locs : List Loc), Inv σ2 → gW G σ2 H → va_S (lw_A s) s.heap H locs → W p l e room_1 s m #[Value.ref b] below meth c H locs k z Q (F0 m 1456 ls [])) : W p l e room_1 s m #[Value.ref b] below meth c H locs k z Q (F0 m 1235 ls []) := by
  obtain ⟨hx, hb, hml, hown, ht, hX, hbl, hE, hAd, hk, hz, hL⟩ := id hK
  have hA2 : ∀ q, q < s.heap.size → ¬ gA G q → ¬ lw_A s q := fun q h1 _ h2 => Nat.not_le.mpr h1 h2
  obtain ⟨r, σ1, σ2, e1, e2, hI2⟩ := t_sheet (xs (i + 1)) (xs (i + 2)) (xs (i + 3)) hI
  refine lv_aload_n hx hb dL_law_1235 rfl (lv_at hl 2 rfl) ?_
  refine lw_arg hK hS hl hi 1 (by decide) (by decide) dL_law_1236 dL_law_1237 dL_law_1238 dL_law_1239 dL_law_1240 ?_
  refine lw_arg hK hS hl hi 2 (by decide) (by decide) dL_law_1241 dL_law_1242 dL_law_1243 dL_law_1244 dL_law_1245 ?_
  refine lw_arg hK hS hl hi 3 (by decide) (by decide) dL_law_1246 dL_law_1247 dL_law_1248 dL_law_1249 dL_law_1250 ?_
  refine g_callV (k := 0) (n := 3) (rest := []) hx hb hml hown ht (c_X9_sheet l G _ _ _ _ e1) m_686 m_687 m_688 m_31 m_689 ⟨rfl, by decide, by decide, by decide⟩ (by decide) gE_0 rfl hE hP hS hAd hA2 rfl hl.1 rfl (Nat.le_of_ble_eq_true rfl) dL_law_1251 ⟨(Nat.le_of_ble_eq_true rfl), (Nat.le_of_ble_eq_true rfl)⟩ ⟨hk, hz⟩ (fun H locs hP hS => ?_)
  refine lv_aload_n hx hb dL_law_1254 rfl (lv_at hl 1 rfl) ?_
  refine lw_arg hK hS hl hi 1 (by decide) (by decide) dL_law_1255 dL_law_1256 dL_law_1257 dL_law_1258 dL_law_1259 ?_
  refine lw_arg hK hS hl hi 2 (by decide) (by decide) dL_law_1260 dL_law_1261 dL_law_1262 dL_law_1263 dL_law_1264 ?_
  refine lw_arg hK hS hl hi 3 (by decide) (by decide) dL_law_1265 dL_law_1266 dL_law_1267 dL_law_1268 dL_law_1269 ?_
  refine g_callV (k := 101) (n := 3) (rest := [.int r]) hx hb hml hown ht (c_X10_sheet l G _ _ _ _ e2) m_1023 m_1024 m_1025 m_41 m_1026 ⟨rfl, by decide, by decide, by decide⟩ (by decide) gE_101 rfl hE hP hS hAd hA2 rfl hl.1 rfl (Nat.le_of_ble_eq_true rfl) dL_law_1270 ⟨(Nat.le_of_ble_eq_true rfl), (Nat.le_of_ble_eq_true rfl)⟩ ⟨hk, hz⟩ (fun H locs hP hS => ?_)
  exact lv_icmp_eq (tgt := 1456) hx hb dL_law_1273 (by decide) (fun _ => kk σ2 H locs hI2 hP hS) (fun c => absurd rfl c)
theorem lw_28 (hK : lw_K p s m c b L xs G k z) (hI : Inv σ) (hP : gW G σ H) (hS : va_S (lw_A s) s.heap H locs) (hl : lv_has ls 4 [(3, .int (nI i)), (2, .ref (G.2.2.1 101)), (1, .ref (G.2.2.1 0)), (0, .ref b)]) (hi : i + 8 ≤ L) (kk : ∀ (σ2 : gSt) (H : Heap) (locs : List Loc), Inv σ2 → gW G σ2 H → va_S (lw_A s) s.heap H locs → W p l e room_1 s m #[Value.ref b] below meth c H locs k z Q (F0 m 1456 ls [])) : W p l e room_1 s m #[Value.ref b] below meth c H locs k z Q (F0 m 1278 ls []) := by
  obtain ⟨hx, hb, hml, hown, ht, hX, hbl, hE, hAd, hk, hz, hL⟩ := id hK
  have hA2 : ∀ q, q < s.heap.size → ¬ gA G q → ¬ lw_A s q := fun q h1 _ h2 => Nat.not_le.mpr h1 h2
  obtain ⟨r, σ1, σ2, e1, e2, hI2⟩ := t_put (xs (i + 1)) (xs (i + 2)) (xs (i + 3)) hI
  refine lv_aload_n hx hb dL_law_1278 rfl (lv_at hl 2 rfl) ?_
  refine lw_arg hK hS hl hi 1 (by decide) (by decide) dL_law_1279 dL_law_1280 dL_law_1281 dL_law_1282 dL_law_1283 ?_
  refine lw_arg hK hS hl hi 2 (by decide) (by decide) dL_law_1284 dL_law_1285 dL_law_1286 dL_law_1287 dL_law_1288 ?_
  refine lw_arg hK hS hl hi 3 (by decide) (by decide) dL_law_1289 dL_law_1290 dL_law_1291 dL_law_1292 dL_law_1293 ?_
  refine g_callV (k := 0) (n := 3) (rest := []) hx hb hml hown ht (c_X9_put l G _ _ _ _ e1) m_700 m_701 m_702 m_31 m_703 ⟨rfl, by decide, by decide, by decide⟩ (by decide) gE_0 rfl hE hP hS hAd hA2 rfl hl.1 rfl (Nat.le_of_ble_eq_true rfl) dL_law_1294 ⟨(Nat.le_of_ble_eq_true rfl), (Nat.le_of_ble_eq_true rfl)⟩ ⟨hk, hz⟩ (fun H locs hP hS => ?_)
  refine lv_aload_n hx hb dL_law_1297 rfl (lv_at hl 1 rfl) ?_
  refine lw_arg hK hS hl hi 1 (by decide) (by decide) dL_law_1298 dL_law_1299 dL_law_1300 dL_law_1301 dL_law_1302 ?_
  refine lw_arg hK hS hl hi 2 (by decide) (by decide) dL_law_1303 dL_law_1304 dL_law_1305 dL_law_1306 dL_law_1307 ?_
  refine lw_arg hK hS hl hi 3 (by decide) (by decide) dL_law_1308 dL_law_1309 dL_law_1310 dL_law_1311 dL_law_1312 ?_
  refine g_callV (k := 101) (n := 3) (rest := [.int r]) hx hb hml hown ht (c_X10_put l G _ _ _ _ e2) m_1030 m_1031 m_1032 m_41 m_1033 ⟨rfl, by decide, by decide, by decide⟩ (by decide) gE_101 rfl hE hP hS hAd hA2 rfl hl.1 rfl (Nat.le_of_ble_eq_true rfl) dL_law_1313 ⟨(Nat.le_of_ble_eq_true rfl), (Nat.le_of_ble_eq_true rfl)⟩ ⟨hk, hz⟩ (fun H locs hP hS => ?_)
  exact lv_icmp_eq (tgt := 1456) hx hb dL_law_1316 (by decide) (fun _ => kk σ2 H locs hI2 hP hS) (fun c => absurd rfl c)
theorem lw_29 (hK : lw_K p s m c b L xs G k z) (hI : Inv σ) (hP : gW G σ H) (hS : va_S (lw_A s) s.heap H locs) (hl : lv_has ls 4 [(3, .int (nI i)), (2, .ref (G.2.2.1 101)), (1, .ref (G.2.2.1 0)), (0, .ref b)]) (hi : i + 8 ≤ L) (kk : ∀ (σ2 : gSt) (H : Heap) (locs : List Loc), Inv σ2 → gW G σ2 H → va_S (lw_A s) s.heap H locs → W p l e room_1 s m #[Value.ref b] below meth c H locs k z Q (F0 m 1456 ls [])) : W p l e room_1 s m #[Value.ref b] below meth c H locs k z Q (F0 m 1321 ls []) := by
  obtain ⟨hx, hb, hml, hown, ht, hX, hbl, hE, hAd, hk, hz, hL⟩ := id hK
  have hA2 : ∀ q, q < s.heap.size → ¬ gA G q → ¬ lw_A s q := fun q h1 _ h2 => Nat.not_le.mpr h1 h2
  obtain ⟨r, σ1, σ2, e1, e2, hI2⟩ := t_copy (xs (i + 1)) (xs (i + 2)) (xs (i + 3)) (xs (i + 4)) (xs (i + 5)) hI
  refine lv_aload_n hx hb dL_law_1321 rfl (lv_at hl 2 rfl) ?_
  refine lw_arg hK hS hl hi 1 (by decide) (by decide) dL_law_1322 dL_law_1323 dL_law_1324 dL_law_1325 dL_law_1326 ?_
  refine lw_arg hK hS hl hi 2 (by decide) (by decide) dL_law_1327 dL_law_1328 dL_law_1329 dL_law_1330 dL_law_1331 ?_
  refine lw_arg hK hS hl hi 3 (by decide) (by decide) dL_law_1332 dL_law_1333 dL_law_1334 dL_law_1335 dL_law_1336 ?_
  refine lw_arg hK hS hl hi 4 (by decide) (by decide) dL_law_1337 dL_law_1338 dL_law_1339 dL_law_1340 dL_law_1341 ?_
  refine lw_arg hK hS hl hi 5 (by decide) (by decide) dL_law_1342 dL_law_1343 dL_law_1344 dL_law_1345 dL_law_1346 ?_
  refine g_callV (k := 0) (n := 5) (rest := []) hx hb hml hown ht (c_X9_copy l G _ _ _ _ _ _ e1) m_712 m_713 m_714 m_31 m_715 ⟨rfl, by decide, by decide, by decide⟩ (by decide) gE_0 rfl hE hP hS hAd hA2 rfl hl.1 rfl (Nat.le_of_ble_eq_true rfl) dL_law_1347 ⟨(Nat.le_of_ble_eq_true rfl), (Nat.le_of_ble_eq_true rfl)⟩ ⟨hk, hz⟩ (fun H locs hP hS => ?_)
  refine lv_aload_n hx hb dL_law_1350 rfl (lv_at hl 1 rfl) ?_
  refine lw_arg hK hS hl hi 1 (by decide) (by decide) dL_law_1351 dL_law_1352 dL_law_1353 dL_law_1354 dL_law_1355 ?_
  refine lw_arg hK hS hl hi 2 (by decide) (by decide) dL_law_1356 dL_law_1357 dL_law_1358 dL_law_1359 dL_law_1360 ?_
  refine lw_arg hK hS hl hi 3 (by decide) (by decide) dL_law_1361 dL_law_1362 dL_law_1363 dL_law_1364 dL_law_1365 ?_
  refine lw_arg hK hS hl hi 4 (by decide) (by decide) dL_law_1366 dL_law_1367 dL_law_1368 dL_law_1369 dL_law_1370 ?_
  refine lw_arg hK hS hl hi 5 (by decide) (by decide) dL_law_1371 dL_law_1372 dL_law_1373 dL_law_1374 dL_law_1375 ?_
  refine g_callV (k := 101) (n := 5) (rest := [.int r]) hx hb hml hown ht (c_X10_copy l G _ _ _ _ _ _ e2) m_1034 m_1035 m_1036 m_41 m_1037 ⟨rfl, by decide, by decide, by decide⟩ (by decide) gE_101 rfl hE hP hS hAd hA2 rfl hl.1 rfl (Nat.le_of_ble_eq_true rfl) dL_law_1376 ⟨(Nat.le_of_ble_eq_true rfl), (Nat.le_of_ble_eq_true rfl)⟩ ⟨hk, hz⟩ (fun H locs hP hS => ?_)
  exact lv_icmp_eq (tgt := 1456) hx hb dL_law_1379 (by decide) (fun _ => kk σ2 H locs hI2 hP hS) (fun c => absurd rfl c)
theorem lw_30 (hK : lw_K p s m c b L xs G k z) (hI : Inv σ) (hP : gW G σ H) (hS : va_S (lw_A s) s.heap H locs) (hl : lv_has ls 4 [(3, .int (nI i)), (2, .ref (G.2.2.1 101)), (1, .ref (G.2.2.1 0)), (0, .ref b)]) (hi : i + 8 ≤ L) (kk : ∀ (σ2 : gSt) (H : Heap) (locs : List Loc), Inv σ2 → gW G σ2 H → va_S (lw_A s) s.heap H locs → W p l e room_1 s m #[Value.ref b] below meth c H locs k z Q (F0 m 1456 ls [])) : W p l e room_1 s m #[Value.ref b] below meth c H locs k z Q (F0 m 1384 ls []) := by
  obtain ⟨hx, hb, hml, hown, ht, hX, hbl, hE, hAd, hk, hz, hL⟩ := id hK
  have hA2 : ∀ q, q < s.heap.size → ¬ gA G q → ¬ lw_A s q := fun q h1 _ h2 => Nat.not_le.mpr h1 h2
  obtain ⟨r, σ1, σ2, e1, e2, hI2⟩ := t_read (xs (i + 1)) hI
  refine lv_aload_n hx hb dL_law_1384 rfl (lv_at hl 2 rfl) ?_
  refine lw_arg hK hS hl hi 1 (by decide) (by decide) dL_law_1385 dL_law_1386 dL_law_1387 dL_law_1388 dL_law_1389 ?_
  refine g_callV (k := 0) (n := 1) (rest := []) hx hb hml hown ht (c_X9_read l G _ _ e1) m_723 m_724 m_725 m_31 m_726 ⟨rfl, by decide, by decide, by decide⟩ (by decide) gE_0 rfl hE hP hS hAd hA2 rfl hl.1 rfl (Nat.le_of_ble_eq_true rfl) dL_law_1390 ⟨(Nat.le_of_ble_eq_true rfl), (Nat.le_of_ble_eq_true rfl)⟩ ⟨hk, hz⟩ (fun H locs hP hS => ?_)
  refine lv_aload_n hx hb dL_law_1393 rfl (lv_at hl 1 rfl) ?_
  refine lw_arg hK hS hl hi 1 (by decide) (by decide) dL_law_1394 dL_law_1395 dL_law_1396 dL_law_1397 dL_law_1398 ?_
  refine g_callV (k := 101) (n := 1) (rest := [.int r]) hx hb hml hown ht (c_X10_read l G _ _ e2) m_1038 m_1039 m_1040 m_41 m_1041 ⟨rfl, by decide, by decide, by decide⟩ (by decide) gE_101 rfl hE hP hS hAd hA2 rfl hl.1 rfl (Nat.le_of_ble_eq_true rfl) dL_law_1399 ⟨(Nat.le_of_ble_eq_true rfl), (Nat.le_of_ble_eq_true rfl)⟩ ⟨hk, hz⟩ (fun H locs hP hS => ?_)
  exact lv_icmp_eq (tgt := 1456) hx hb dL_law_1402 (by decide) (fun _ => kk σ2 H locs hI2 hP hS) (fun c => absurd rfl c)
theorem lw_31 (hK : lw_K p s m c b L xs G k z) (hI : Inv σ) (hP : gW G σ H) (hS : va_S (lw_A s) s.heap H locs) (hl : lv_has ls 4 [(3, .int (nI i)), (2, .ref (G.2.2.1 101)), (1, .ref (G.2.2.1 0)), (0, .ref b)]) (hi : i + 8 ≤ L) (kk : ∀ (σ2 : gSt) (H : Heap) (locs : List Loc), Inv σ2 → gW G σ2 H → va_S (lw_A s) s.heap H locs → W p l e room_1 s m #[Value.ref b] below meth c H locs k z Q (F0 m 1456 ls [])) : W p l e room_1 s m #[Value.ref b] below meth c H locs k z Q (F0 m 1407 ls []) := by
  obtain ⟨hx, hb, hml, hown, ht, hX, hbl, hE, hAd, hk, hz, hL⟩ := id hK
  have hA2 : ∀ q, q < s.heap.size → ¬ gA G q → ¬ lw_A s q := fun q h1 _ h2 => Nat.not_le.mpr h1 h2
  obtain ⟨r, σ1, σ2, e1, e2, hI2⟩ := t_keep hI
  refine lv_aload_n hx hb dL_law_1407 rfl (lv_at hl 2 rfl) ?_
  refine g_callV (k := 0) (n := 0) (rest := []) hx hb hml hown ht (c_X9_keep l G _ e1) m_735 m_736 m_737 m_31 m_738 ⟨rfl, by decide, by decide, by decide⟩ (by decide) gE_0 rfl hE hP hS hAd hA2 rfl hl.1 rfl (Nat.le_of_ble_eq_true rfl) dL_law_1408 ⟨(Nat.le_of_ble_eq_true rfl), (Nat.le_of_ble_eq_true rfl)⟩ ⟨hk, hz⟩ (fun H locs hP hS => ?_)
  refine lv_aload_n hx hb dL_law_1411 rfl (lv_at hl 1 rfl) ?_
  refine g_callV (k := 101) (n := 0) (rest := [.int r]) hx hb hml hown ht (c_X10_keep l G _ e2) m_1042 m_1043 m_1044 m_41 m_1045 ⟨rfl, by decide, by decide, by decide⟩ (by decide) gE_101 rfl hE hP hS hAd hA2 rfl hl.1 rfl (Nat.le_of_ble_eq_true rfl) dL_law_1412 ⟨(Nat.le_of_ble_eq_true rfl), (Nat.le_of_ble_eq_true rfl)⟩ ⟨hk, hz⟩ (fun H locs hP hS => ?_)
  exact lv_icmp_eq (tgt := 1456) hx hb dL_law_1415 (by decide) (fun _ => kk σ2 H locs hI2 hP hS) (fun c => absurd rfl c)
theorem lw_32 (hK : lw_K p s m c b L xs G k z) (hI : Inv σ) (hP : gW G σ H) (hS : va_S (lw_A s) s.heap H locs) (hl : lv_has ls 4 [(3, .int (nI i)), (2, .ref (G.2.2.1 101)), (1, .ref (G.2.2.1 0)), (0, .ref b)]) (hi : i + 8 ≤ L) (kk : ∀ (σ2 : gSt) (H : Heap) (locs : List Loc), Inv σ2 → gW G σ2 H → va_S (lw_A s) s.heap H locs → W p l e room_1 s m #[Value.ref b] below meth c H locs k z Q (F0 m 1456 ls [])) : W p l e room_1 s m #[Value.ref b] below meth c H locs k z Q (F0 m 1420 ls []) := by
  obtain ⟨hx, hb, hml, hown, ht, hX, hbl, hE, hAd, hk, hz, hL⟩ := id hK
  have hA2 : ∀ q, q < s.heap.size → ¬ gA G q → ¬ lw_A s q := fun q h1 _ h2 => Nat.not_le.mpr h1 h2
  obtain ⟨r, σ1, σ2, e1, e2, hI2⟩ := t_back hI
  refine lv_aload_n hx hb dL_law_1420 rfl (lv_at hl 2 rfl) ?_
  refine g_callV (k := 0) (n := 0) (rest := []) hx hb hml hown ht (c_X9_back l G _ e1) m_776 m_777 m_778 m_31 m_779 ⟨rfl, by decide, by decide, by decide⟩ (by decide) gE_0 rfl hE hP hS hAd hA2 rfl hl.1 rfl (Nat.le_of_ble_eq_true rfl) dL_law_1421 ⟨(Nat.le_of_ble_eq_true rfl), (Nat.le_of_ble_eq_true rfl)⟩ ⟨hk, hz⟩ (fun H locs hP hS => ?_)
  refine lv_aload_n hx hb dL_law_1424 rfl (lv_at hl 1 rfl) ?_
  refine g_callV (k := 101) (n := 0) (rest := [.int r]) hx hb hml hown ht (c_X10_back l G _ e2) m_1046 m_1047 m_1048 m_41 m_1049 ⟨rfl, by decide, by decide, by decide⟩ (by decide) gE_101 rfl hE hP hS hAd hA2 rfl hl.1 rfl (Nat.le_of_ble_eq_true rfl) dL_law_1425 ⟨(Nat.le_of_ble_eq_true rfl), (Nat.le_of_ble_eq_true rfl)⟩ ⟨hk, hz⟩ (fun H locs hP hS => ?_)
  exact lv_icmp_eq (tgt := 1456) hx hb dL_law_1428 (by decide) (fun _ => kk σ2 H locs hI2 hP hS) (fun c => absurd rfl c)
theorem lw_33 (hK : lw_K p s m c b L xs G k z) (hI : Inv σ) (hP : gW G σ H) (hS : va_S (lw_A s) s.heap H locs) (hl : lv_has ls 4 [(3, .int (nI i)), (2, .ref (G.2.2.1 101)), (1, .ref (G.2.2.1 0)), (0, .ref b)]) (hi : i + 8 ≤ L) (kk : ∀ (σ2 : gSt) (H : Heap) (locs : List Loc), Inv σ2 → gW G σ2 H → va_S (lw_A s) s.heap H locs → W p l e room_1 s m #[Value.ref b] below meth c H locs k z Q (F0 m 1456 ls [])) : W p l e room_1 s m #[Value.ref b] below meth c H locs k z Q (F0 m 1433 ls []) := by
  obtain ⟨hx, hb, hml, hown, ht, hX, hbl, hE, hAd, hk, hz, hL⟩ := id hK
  have hA2 : ∀ q, q < s.heap.size → ¬ gA G q → ¬ lw_A s q := fun q h1 _ h2 => Nat.not_le.mpr h1 h2
  obtain ⟨r, σ1, σ2, e1, e2, hI2⟩ := t_told (xs (i + 1)) hI
  refine lv_aload_n hx hb dL_law_1433 rfl (lv_at hl 2 rfl) ?_
  refine lw_arg hK hS hl hi 1 (by decide) (by decide) dL_law_1434 dL_law_1435 dL_law_1436 dL_law_1437 dL_law_1438 ?_
  refine g_callV (k := 0) (n := 1) (rest := []) hx hb hml hown ht (c_X9_told l G _ _ e1) m_780 m_781 m_782 m_31 m_783 ⟨rfl, by decide, by decide, by decide⟩ (by decide) gE_0 rfl hE hP hS hAd hA2 rfl hl.1 rfl (Nat.le_of_ble_eq_true rfl) dL_law_1439 ⟨(Nat.le_of_ble_eq_true rfl), (Nat.le_of_ble_eq_true rfl)⟩ ⟨hk, hz⟩ (fun H locs hP hS => ?_)
  refine lv_aload_n hx hb dL_law_1442 rfl (lv_at hl 1 rfl) ?_
  refine lw_arg hK hS hl hi 1 (by decide) (by decide) dL_law_1443 dL_law_1444 dL_law_1445 dL_law_1446 dL_law_1447 ?_
  refine g_callV (k := 101) (n := 1) (rest := [.int r]) hx hb hml hown ht (c_X10_told l G _ _ e2) m_1050 m_1051 m_1052 m_41 m_1053 ⟨rfl, by decide, by decide, by decide⟩ (by decide) gE_101 rfl hE hP hS hAd hA2 rfl hl.1 rfl (Nat.le_of_ble_eq_true rfl) dL_law_1448 ⟨(Nat.le_of_ble_eq_true rfl), (Nat.le_of_ble_eq_true rfl)⟩ ⟨hk, hz⟩ (fun H locs hP hS => ?_)
  exact lv_icmp_eq (tgt := 1456) hx hb dL_law_1451 (by decide) (fun _ => kk σ2 H locs hI2 hP hS) (fun c => absurd rfl c)
end LW
