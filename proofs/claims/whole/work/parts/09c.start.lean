/-- the world behind both constructors -/
def g0 : gSt := fun k => match k with
  | 1 => fun _ => 60
  | 43 => fun _ => 60
  | 38 => fun _ => 3
  | 80 => fun _ => 3
  | 102 => upd (upd (fun _ => 0) 5 60) 6 3
  | _ => fun _ => 0
theorem g0_col : ∀ q ∈ colT, ∀ j, j < q.2.2.2 → g0 q.1 (q.2.1 + j) = g0 102 (q.2.2.1 + j) := by decide +kernel
theorem Inv_g0 : Inv g0 := by
  refine ⟨⟨g0_col, ⟨by decide +kernel, by decide +kernel, by decide +kernel⟩, 0, 0, 0, 0, 0, ⟨⟨rfl, rfl, rfl, rfl, rfl⟩, by decide⟩, ⟨by decide +kernel, by decide +kernel⟩, by unfold RgW; decide +kernel, by unfold RgP; decide +kernel, by unfold RgS; decide +kernel, fun j _ hj => (by decide +kernel : ∀ j, j < 10 → g0 102 (89 + j) = 0 ∧ g0 102 (109 + j) = 0 ∧ g0 102 (119 + j) = 0) j hj, ⟨fun j hj => absurd hj (Nat.not_lt_zero _), fun _ => 0, fun j i hj => absurd hj (Nat.not_lt_zero _)⟩, by unfold RgF; decide +kernel, ⟨by decide +kernel, by decide⟩, fun j hj => absurd hj (Nat.not_lt_zero _)⟩, fun e => absurd e (by decide +kernel), ⟨rfl, Or.inl rfl⟩, rfl, ?_⟩
  intro j hj
  rcases (show j = 0 ∨ j = 1 ∨ j = 2 ∨ j = 3 by omega) with rfl | rfl | rfl | rfl <;> exact ⟨rfl, rfl, fun i hi => rfl, ⟨0, by decide, rfl⟩, Or.inl rfl⟩
theorem gRf_6 {ad : Nat → Nat} {b : Nat} : gRf ad b 6 = fun i => ([ad (b + 0), ad (b + 1), ad (b + 2), ad (b + 3), ad (b + 4), ad (b + 5)] : List Nat)[i]? := by
  funext i
  unfold gRf
  match i with
  | 0 => rfl
  | 1 => rfl
  | 2 => rfl
  | 3 => rfl
  | 4 => rfl
  | 5 => rfl
  | n + 6 => simp
theorem gRf_4 {ad : Nat → Nat} {b : Nat} : gRf ad b 4 = fun i => ([ad (b + 0), ad (b + 1), ad (b + 2), ad (b + 3)] : List Nat)[i]? := by
  funext i
  unfold gRf
  match i with
  | 0 => rfl
  | 1 => rfl
  | 2 => rfl
  | 3 => rfl
  | n + 4 => simp
def lw_ad (q0 : Nat) (a : Nat → Nat) (q8 : Nat) (b2 : Nat → Nat) : Nat → Nat := fun k => if k = 0 then q0 else if k < 91 then a k else if k = 91 then b2 9 else if k < 101 then a (k - 1) else if k = 101 then q8 else b2 (k - 101)
def lw_pi (k : Nat) : Nat := if k < 91 then k else if k = 91 then 109 else if k = 92 then 91 else if k < 97 then 92 + 2 * (k - 93) else if k < 101 then 93 + 2 * (k - 97) else k - 1
def lw_L (ca : Nat → ClassId) (q0 : Nat) (a : Nat → Nat) (q8 : Nat) (b2 : Nat → Nat) : va_W := [(q0, .inr (9, [.ref (a 1), .ref (a 43), .ref (a 85), .ref (a 91), .int 0, .int 0])), ((a 1), .inr (0, [.ref (a 2), .ref (a 11), .ref (a 17), .ref (a 26), .ref (a 31), .ref (a 38), .int 60])), ((a 2), .inr (4, [.int 0, .ref (a 3), .ref (a 4)])), ((a 3), .inl (ca 0, 6, .inl (fun _ => 0))), ((a 4), .inl (ca 1, 6, .inr (.inr (.inr (.inr (fun i => ([a 5, a 6, a 7, a 8, a 9, a 10] : List Nat)[i]?)))))), ((a 5), .inl (ca 0, 6, .inl (fun _ => 0))), ((a 6), .inl (ca 0, 6, .inl (fun _ => 0))), ((a 7), .inl (ca 0, 6, .inl (fun _ => 0))), ((a 8), .inl (ca 0, 6, .inl (fun _ => 0))), ((a 9), .inl (ca 0, 6, .inl (fun _ => 0))), ((a 10), .inl (ca 0, 6, .inl (fun _ => 0))), ((a 11), .inr (5, [.int 0, .ref (a 12), .ref (a 13), .ref (a 14), .ref (a 15), .ref (a 16)])), ((a 12), .inl (ca 0, 10, .inl (fun _ => 0))), ((a 13), .inl (ca 0, 10, .inl (fun _ => 0))), ((a 14), .inl (ca 0, 10, .inl (fun _ => 0))), ((a 15), .inl (ca 0, 10, .inl (fun _ => 0))), ((a 16), .inl (ca 0, 10, .inl (fun _ => 0))), ((a 17), .inr (1, [.int 0, .ref (a 18), .ref (a 19), .ref (a 20), .ref (a 21), .ref (a 22), .ref (a 23), .ref (a 24), .ref (a 25)])), ((a 18), .inl (ca 0, 24, .inl (fun _ => 0))), ((a 19), .inl (ca 0, 24, .inl (fun _ => 0))), ((a 20), .inl (ca 0, 24, .inl (fun _ => 0))), ((a 21), .inl (ca 0, 24, .inl (fun _ => 0))), ((a 22), .inl (ca 0, 24, .inl (fun _ => 0))), ((a 23), .inl (ca 0, 24, .inl (fun _ => 0))), ((a 24), .inl (ca 0, 24, .inl (fun _ => 0))), ((a 25), .inl (ca 0, 24, .inl (fun _ => 0))), ((a 26), .inr (2, [.int 0, .ref (a 27), .ref (a 28), .ref (a 29), .ref (a 30)])), ((a 27), .inl (ca 0, 12, .inl (fun _ => 0))), ((a 28), .inl (ca 0, 12, .inl (fun _ => 0))), ((a 29), .inl (ca 0, 12, .inl (fun _ => 0))), ((a 30), .inl (ca 0, 12, .inl (fun _ => 0))), ((a 31), .inr (3, [.int 0, .ref (a 32), .ref (a 33), .ref (a 34), .ref (a 35), .ref (a 36), .ref (a 37)])), ((a 32), .inl (ca 0, 20, .inl (fun _ => 0))), ((a 33), .inl (ca 0, 20, .inl (fun _ => 0))), ((a 34), .inl (ca 0, 20, .inl (fun _ => 0))), ((a 35), .inl (ca 0, 20, .inl (fun _ => 0))), ((a 36), .inl (ca 0, 20, .inl (fun _ => 0))), ((a 37), .inl (ca 0, 20, .inl (fun _ => 0))), ((a 38), .inr (6, [.int 3, .ref (a 39), .ref (a 40), .ref (a 41), .ref (a 42)])), ((a 39), .inl (ca 0, 10, .inl (fun _ => 0))), ((a 40), .inl (ca 0, 10, .inl (fun _ => 0))), ((a 41), .inl (ca 0, 10, .inl (fun _ => 0))), ((a 42), .inl (ca 0, 60, .inl (fun _ => 0))), ((a 43), .inr (0, [.ref (a 44), .ref (a 53), .ref (a 59), .ref (a 68), .ref (a 73), .ref (a 80), .int 60])), ((a 44), .inr (4, [.int 0, .ref (a 45), .ref (a 46)])), ((a 45), .inl (ca 0, 6, .inl (fun _ => 0))), ((a 46), .inl (ca 1, 6, .inr (.inr (.inr (.inr (fun i => ([a 47, a 48, a 49, a 50, a 51, a 52] : List Nat)[i]?)))))), ((a 47), .inl (ca 0, 6, .inl (fun _ => 0))), ((a 48), .inl (ca 0, 6, .inl (fun _ => 0))), ((a 49), .inl (ca 0, 6, .inl (fun _ => 0))), ((a 50), .inl (ca 0, 6, .inl (fun _ => 0))), ((a 51), .inl (ca 0, 6, .inl (fun _ => 0))), ((a 52), .inl (ca 0, 6, .inl (fun _ => 0))), ((a 53), .inr (5, [.int 0, .ref (a 54), .ref (a 55), .ref (a 56), .ref (a 57), .ref (a 58)])), ((a 54), .inl (ca 0, 10, .inl (fun _ => 0))), ((a 55), .inl (ca 0, 10, .inl (fun _ => 0))), ((a 56), .inl (ca 0, 10, .inl (fun _ => 0))), ((a 57), .inl (ca 0, 10, .inl (fun _ => 0))), ((a 58), .inl (ca 0, 10, .inl (fun _ => 0))), ((a 59), .inr (1, [.int 0, .ref (a 60), .ref (a 61), .ref (a 62), .ref (a 63), .ref (a 64), .ref (a 65), .ref (a 66), .ref (a 67)])), ((a 60), .inl (ca 0, 24, .inl (fun _ => 0))), ((a 61), .inl (ca 0, 24, .inl (fun _ => 0))), ((a 62), .inl (ca 0, 24, .inl (fun _ => 0))), ((a 63), .inl (ca 0, 24, .inl (fun _ => 0))), ((a 64), .inl (ca 0, 24, .inl (fun _ => 0))), ((a 65), .inl (ca 0, 24, .inl (fun _ => 0))), ((a 66), .inl (ca 0, 24, .inl (fun _ => 0))), ((a 67), .inl (ca 0, 24, .inl (fun _ => 0))), ((a 68), .inr (2, [.int 0, .ref (a 69), .ref (a 70), .ref (a 71), .ref (a 72)])), ((a 69), .inl (ca 0, 12, .inl (fun _ => 0))), ((a 70), .inl (ca 0, 12, .inl (fun _ => 0))), ((a 71), .inl (ca 0, 12, .inl (fun _ => 0))), ((a 72), .inl (ca 0, 12, .inl (fun _ => 0))), ((a 73), .inr (3, [.int 0, .ref (a 74), .ref (a 75), .ref (a 76), .ref (a 77), .ref (a 78), .ref (a 79)])), ((a 74), .inl (ca 0, 20, .inl (fun _ => 0))), ((a 75), .inl (ca 0, 20, .inl (fun _ => 0))), ((a 76), .inl (ca 0, 20, .inl (fun _ => 0))), ((a 77), .inl (ca 0, 20, .inl (fun _ => 0))), ((a 78), .inl (ca 0, 20, .inl (fun _ => 0))), ((a 79), .inl (ca 0, 20, .inl (fun _ => 0))), ((a 80), .inr (6, [.int 3, .ref (a 81), .ref (a 82), .ref (a 83), .ref (a 84)])), ((a 81), .inl (ca 0, 10, .inl (fun _ => 0))), ((a 82), .inl (ca 0, 10, .inl (fun _ => 0))), ((a 83), .inl (ca 0, 10, .inl (fun _ => 0))), ((a 84), .inl (ca 0, 60, .inl (fun _ => 0))), ((a 85), .inr (7, [.ref (a 1), .ref (a 86), .ref (a 87), .ref (a 88), .ref (a 89), .ref (a 90), .int 0, .int 0])), ((a 86), .inl (ca 0, 24, .inl (fun _ => 0))), ((a 87), .inl (ca 0, 10, .inl (fun _ => 0))), ((a 88), .inl (ca 0, 10, .inl (fun _ => 0))), ((a 89), .inl (ca 0, 9, .inl (fun _ => 0))), ((a 90), .inl (ca 0, 9, .inl (fun _ => 0))), ((a 91), .inl (ca 2, 4, .inr (.inr (.inr (.inr (fun i => ([a 92, a 93, a 94, a 95] : List Nat)[i]?)))))), ((a 92), .inr (8, [.int 0, .int 0, .ref (a 96)])), ((a 96), .inl (ca 0, 60, .inl (fun _ => 0))), ((a 93), .inr (8, [.int 0, .int 0, .ref (a 97)])), ((a 97), .inl (ca 0, 60, .inl (fun _ => 0))), ((a 94), .inr (8, [.int 0, .int 0, .ref (a 98)])), ((a 98), .inl (ca 0, 60, .inl (fun _ => 0))), ((a 95), .inr (8, [.int 0, .int 0, .ref (a 99)])), ((a 99), .inl (ca 0, 60, .inl (fun _ => 0))), (q8, .inr (10, [.ref (b2 1), .ref (b2 2), .int 0, .int 0, .ref (b2 3), .ref (b2 4), .ref (b2 5), .int 0, .ref (b2 6), .int 0, .ref (b2 7), .ref (b2 8), .ref (b2 9)])), ((b2 1), .inl (ca 0, 549, .inl (upd (upd (fun _ => 0) 5 60) 6 3))), ((b2 2), .inl (ca 0, 549, .inl (fun _ => 0))), ((b2 3), .inl (ca 0, 4, .inl (fun _ => 0))), ((b2 4), .inl (ca 0, 4, .inl (fun _ => 0))), ((b2 5), .inl (ca 0, 240, .inl (fun _ => 0))), ((b2 6), .inl (ca 0, 10, .inl (fun _ => 0))), ((b2 7), .inl (ca 0, 8, .inl (fun _ => 0))), ((b2 8), .inl (ca 0, 256, .inl (fun _ => 0))), ((b2 9), .inl (ca 0, 60, .inl (fun _ => 0)))]
set_option maxHeartbeats 8000000 in
set_option maxRecDepth 100000 in
theorem lw_flat (ca : Nat → ClassId) (q0 : Nat) (a : Nat → Nat) (q8 : Nat) (b2 : Nat → Nat) : wX9 ca q0 a ++ wX10 ca q8 b2 = lw_L ca q0 a q8 b2 := by
  simp only [wX9, wX10, wX0, wX1, wX2, wX3, wX4, wX5, wX6, wX7, wX8, List.cons_append, List.nil_append, List.append_assoc]
  rfl
set_option maxHeartbeats 8000000 in
set_option maxRecDepth 100000 in
theorem lw_fit (D : va_G) (ca : Nat → ClassId) (q0 : Nat) (a : Nat → Nat) (q8 : Nat) (b2 : Nat → Nat) (ko : Nat) : ∀ (k : Nat), k < 110 → (lw_L ca q0 a q8 b2)[lw_pi k]? = some (lw_ad q0 a q8 b2 k, gE (D, ca, lw_ad q0 a q8 b2, ko) k (g0 k))
  | 0, _ => rfl
  | 1, _ => rfl
  | 2, _ => rfl
  | 3, _ => rfl
  | 4, _ => by
    show _ = some ((a 4, .inl (ca 1, 6, .inr (.inr (.inr (.inr (gRf (lw_ad q0 a q8 b2) 5 6)))))) : Nat × va_E)
    rw [gRf_6]
    rfl
  | 5, _ => rfl
  | 6, _ => rfl
  | 7, _ => rfl
  | 8, _ => rfl
  | 9, _ => rfl
  | 10, _ => rfl
  | 11, _ => rfl
  | 12, _ => rfl
  | 13, _ => rfl
  | 14, _ => rfl
  | 15, _ => rfl
  | 16, _ => rfl
  | 17, _ => rfl
  | 18, _ => rfl
  | 19, _ => rfl
  | 20, _ => rfl
  | 21, _ => rfl
  | 22, _ => rfl
  | 23, _ => rfl
  | 24, _ => rfl
  | 25, _ => rfl
  | 26, _ => rfl
  | 27, _ => rfl
  | 28, _ => rfl
  | 29, _ => rfl
  | 30, _ => rfl
  | 31, _ => rfl
  | 32, _ => rfl
  | 33, _ => rfl
  | 34, _ => rfl
  | 35, _ => rfl
  | 36, _ => rfl
  | 37, _ => rfl
  | 38, _ => rfl
  | 39, _ => rfl
  | 40, _ => rfl
  | 41, _ => rfl
  | 42, _ => rfl
  | 43, _ => rfl
  | 44, _ => rfl
  | 45, _ => rfl
  | 46, _ => by
    show _ = some ((a 46, .inl (ca 1, 6, .inr (.inr (.inr (.inr (gRf (lw_ad q0 a q8 b2) 47 6)))))) : Nat × va_E)
    rw [gRf_6]
    rfl
  | 47, _ => rfl
  | 48, _ => rfl
  | 49, _ => rfl
  | 50, _ => rfl
  | 51, _ => rfl
  | 52, _ => rfl
  | 53, _ => rfl
  | 54, _ => rfl
  | 55, _ => rfl
  | 56, _ => rfl
  | 57, _ => rfl
  | 58, _ => rfl
  | 59, _ => rfl
  | 60, _ => rfl
  | 61, _ => rfl
  | 62, _ => rfl
  | 63, _ => rfl
  | 64, _ => rfl
  | 65, _ => rfl
  | 66, _ => rfl
  | 67, _ => rfl
  | 68, _ => rfl
  | 69, _ => rfl
  | 70, _ => rfl
  | 71, _ => rfl
  | 72, _ => rfl
  | 73, _ => rfl
  | 74, _ => rfl
  | 75, _ => rfl
  | 76, _ => rfl
  | 77, _ => rfl
  | 78, _ => rfl
  | 79, _ => rfl
  | 80, _ => rfl
  | 81, _ => rfl
  | 82, _ => rfl
  | 83, _ => rfl
  | 84, _ => rfl
  | 85, _ => rfl
  | 86, _ => rfl
  | 87, _ => rfl
  | 88, _ => rfl
  | 89, _ => rfl
  | 90, _ => rfl
  | 91, _ => rfl
  | 92, _ => by
    show _ = some ((a 91, .inl (ca 2, 4, .inr (.inr (.inr (.inr (gRf (lw_ad q0 a q8 b2) 93 4)))))) : Nat × va_E)
    rw [gRf_4]
    rfl
  | 93, _ => rfl
  | 94, _ => rfl
  | 95, _ => rfl
  | 96, _ => rfl
  | 97, _ => rfl
  | 98, _ => rfl
  | 99, _ => rfl
  | 100, _ => rfl
  | 101, _ => rfl
  | 102, _ => rfl
  | 103, _ => rfl
  | 104, _ => rfl
  | 105, _ => rfl
  | 106, _ => rfl
  | 107, _ => rfl
  | 108, _ => rfl
  | 109, _ => rfl
  | n + 110, h => absurd h (by omega)
section LW3
variable {p : Program} {e : Env} {s : State} {m : MethodId} {below : List Frame} {meth : Method} {c : Code} {b L : Nat} {xs : Nat → Int32}
theorem lw_env (C0 : lw_At p s m meth c b L xs) : ∃ (D : va_G) (ca : Nat → ClassId), gCE D ca s := by
  obtain ⟨hx, hb, hr, hml, hown, hts, hX, hbl, hlk, hgv⟩ := C0
  have ht : ∀ w ∈ gTb, w.before #[Value.ref b] s = true := fun w hw => hts w (gTb_in hw)
  have hD0 : ∀ c : Nat, ∃ (dC : ClassId) (dI : Nat → Nat), ∀ q, vwCl[c]? = some q → u_Kn s q.1 q.2.1 q.2.2 dC dI := by
    intro c
    by_cases hc : c < 11
    rotate_left
    · exact ⟨0, fun _ => 0, fun q hq => absurd (List.getElem?_eq_some_iff.mp hq).1 (by simpa using hc)⟩
    rcases (show c = 0 ∨ c = 1 ∨ c = 2 ∨ c = 3 ∨ c = 4 ∨ c = 5 ∨ c = 6 ∨ c = 7 ∨ c = 8 ∨ c = 9 ∨ c = 10 by omega) with rfl | rfl | rfl | rfl | rfl | rfl | rfl | rfl | rfl | rfl | rfl
    · obtain ⟨x, y, h⟩ := u_known (C := RX0) (T := TX0) (N := 7) ht uX0 (ht _ m_55)
      exact ⟨x, y, fun q hq => by cases hq; exact h⟩
    · obtain ⟨x, y, h⟩ := u_known (C := RX1) (T := TX1) (N := 9) ht uX1 (ht _ m_116)
      exact ⟨x, y, fun q hq => by cases hq; exact h⟩
    · obtain ⟨x, y, h⟩ := u_known (C := RX2) (T := TX2) (N := 5) ht uX2 (ht _ m_160)
      exact ⟨x, y, fun q hq => by cases hq; exact h⟩
    · obtain ⟨x, y, h⟩ := u_known (C := RX3) (T := TX3) (N := 7) ht uX3 (ht _ m_185)
      exact ⟨x, y, fun q hq => by cases hq; exact h⟩
    · obtain ⟨x, y, h⟩ := u_known (C := RX4) (T := TX4) (N := 3) ht uX4 (ht _ m_61)
      exact ⟨x, y, fun q hq => by cases hq; exact h⟩
    · obtain ⟨x, y, h⟩ := u_known (C := RX5) (T := TX5) (N := 6) ht uX5 (ht _ m_82)
      exact ⟨x, y, fun q hq => by cases hq; exact h⟩
    · obtain ⟨x, y, h⟩ := u_known (C := RX6) (T := TX6) (N := 5) ht uX6 (ht _ m_220)
      exact ⟨x, y, fun q hq => by cases hq; exact h⟩
    · obtain ⟨x, y, h⟩ := u_known (C := RX7) (T := TX7) (N := 8) ht uX7 (ht _ m_279)
      exact ⟨x, y, fun q hq => by cases hq; exact h⟩
    · obtain ⟨x, y, h⟩ := u_known (C := RX8) (T := TX8) (N := 3) ht uX8 (ht _ m_311)
      exact ⟨x, y, fun q hq => by cases hq; exact h⟩
    · obtain ⟨x, y, h⟩ := u_known (C := RX9) (T := TX9) (N := 6) ht uX9 (ht _ m_47)
      exact ⟨x, y, fun q hq => by cases hq; exact h⟩
    · obtain ⟨x, y, h⟩ := u_known (C := RX10) (T := TX10) (N := 13) ht uX10 (ht _ m_785)
      exact ⟨x, y, fun q hq => by cases hq; exact h⟩
  obtain ⟨D, hDk⟩ : ∃ D : va_G, ∀ c q, vwCl[c]? = some q → u_Kn s q.1 q.2.1 q.2.2 (D.1 c) (D.2 c) := ⟨(fun c => Classical.choose (hD0 c), fun c => Classical.choose (Classical.choose_spec (hD0 c))), fun c => Classical.choose_spec (Classical.choose_spec (hD0 c))⟩
  have hA1 : (Cond.arrayOver (.array .int)).before #[Value.ref b] s = true := hts _ (List.mem_of_getElem? (i := 67) (by decide +kernel))
  have hA2 : (Cond.arrayOver (.object "PoorDesk$Sheet")).before #[Value.ref b] s = true := hts _ (List.mem_of_getElem? (i := 310) (by decide +kernel))
  obtain ⟨cI, kI, pI, i1, i2, i3⟩ := Cond.arrayClass_spec (ht _ m_80)
  obtain ⟨pA, cA, kA, a1, a2, a3, a4, a5⟩ := arrayOver_specB hA1
  obtain ⟨pS, cS, kS, s1, s2, s3, s4, s5⟩ := Cond.arrayOver_spec hA2
  refine ⟨D, fun k => [cI, cA, cS].getD k cI, ⟨hDk, fun k q hq => ?_⟩, va_AOA.of hA1, va_AO.of hA2, fun w hw => ?_⟩
  · match k, hq with
    | 0, hq => cases hq; exact ⟨fun n z => ⟨fun k h => (by cases h), kI, i2, pI, i3⟩, i1⟩
    | 1, hq => cases hq; exact ⟨fun n z => ⟨fun k h => (by cases h), kA, a3, pA, a4⟩, a5⟩
    | 2, hq => cases hq; exact ⟨fun n z => ⟨fun k h => (by cases h), kS, s3, pS, s4⟩, kS, pS, s3, s4, s1, s5⟩
    | n + 3, hq => simp [gTyC] at hq
  · simp only [gNestI, List.mem_cons, List.not_mem_nil, or_false] at hw
    rcases hw with rfl | rfl | rfl | rfl | rfl | rfl | rfl | rfl
    · exact va_Nw.of rfl (hts _ (List.mem_of_getElem? (i := 56) (by decide +kernel)))
    · exact va_Nw.of rfl (hts _ (List.mem_of_getElem? (i := 62) (by decide +kernel)))
    · exact va_Nw.of rfl (hts _ (List.mem_of_getElem? (i := 83) (by decide +kernel)))
    · exact va_Nw.of rfl (hts _ (List.mem_of_getElem? (i := 117) (by decide +kernel)))
    · exact va_Nw.of rfl (hts _ (List.mem_of_getElem? (i := 161) (by decide +kernel)))
    · exact va_Nw.of rfl (hts _ (List.mem_of_getElem? (i := 186) (by decide +kernel)))
    · exact va_Nw.of rfl (hts _ (List.mem_of_getElem? (i := 221) (by decide +kernel)))
    · exact va_Nw.of rfl (hts _ (List.mem_of_getElem? (i := 312) (by decide +kernel)))
theorem lw_nest (C0 : lw_At p s m meth c b L xs) : ∀ w ∈ gNest, va_Nw w s := by
  obtain ⟨hx, hb, hr, hml, hown, hts, hX, hbl, hlk, hgv⟩ := C0
  intro w hw
  simp only [gNest, List.mem_cons, List.not_mem_nil, or_false] at hw
  rcases hw with rfl | rfl | rfl | rfl | rfl | rfl | rfl
  · exact va_Nw.of rfl (hts _ (List.mem_of_getElem? (i := 760) (by decide +kernel)))
  · exact va_Nw.of rfl (hts _ (List.mem_of_getElem? (i := 765) (by decide +kernel)))
  · exact va_Nw.of rfl (hts _ (List.mem_of_getElem? (i := 770) (by decide +kernel)))
  · exact va_Nw.of rfl (hts _ (List.mem_of_getElem? (i := 747) (by decide +kernel)))
  · exact va_Nw.of rfl (hts _ (List.mem_of_getElem? (i := 755) (by decide +kernel)))
  · exact va_Nw.of rfl (hts _ (List.mem_of_getElem? (i := 734) (by decide +kernel)))
  · exact va_Nw.of rfl (hts _ (List.mem_of_getElem? (i := 775) (by decide +kernel)))
theorem lw_kind (C0 : lw_At p s m meth c b L xs) {A : Nat → Prop} (hA : ∀ a : Nat, a < s.heap.size → ¬ A a) : ∃ ko : Nat, va_Z "PoorDesk$Persons" "KIND_OVER" "[I" (.ref ko) A s s.heap ∧ va_T .int ko 4 (fun j => .int (gKO j)) A s s.heap := by
  obtain ⟨hx, hb, hr, hml, hown, hts, hX, hbl, hlk, hgv⟩ := C0
  have hs := flat_of_before _ hgv
  have harr : (Cond.arrayOf (.static "PoorDesk$Persons" "KIND_OVER" "[I") .int).before #[Value.ref b] s = true := hs _ (by decide +kernel)
  have hlen : (Cond.eq (.length (.static "PoorDesk$Persons" "KIND_OVER" "[I")) (.int 4)).before #[Value.ref b] s = true := hs _ (by decide +kernel)
  have h0 : (Cond.eq (.elem (.static "PoorDesk$Persons" "KIND_OVER" "[I") (.int 0)) (.int (-1))).before #[Value.ref b] s = true := hs _ (by decide +kernel)
  have h1 : (Cond.eq (.elem (.static "PoorDesk$Persons" "KIND_OVER" "[I") (.int 1)) (.int 0)).before #[Value.ref b] s = true := hs _ (by decide +kernel)
  have h2 : (Cond.eq (.elem (.static "PoorDesk$Persons" "KIND_OVER" "[I") (.int 2)) (.int 0)).before #[Value.ref b] s = true := hs _ (by decide +kernel)
  have h3 : (Cond.eq (.elem (.static "PoorDesk$Persons" "KIND_OVER" "[I") (.int 3)) (.int 2)).before #[Value.ref b] s = true := hs _ (by decide +kernel)
  obtain ⟨ko, ev, hT⟩ := va_Tof (tm := .static "PoorDesk$Persons" "KIND_OVER" "[I") (N := 4) (f := fun j => .int (gKO j)) (by decide) harr (va_eqt hlen) (fun j hj => by
    rcases (show j = 0 ∨ j = 1 ∨ j = 2 ∨ j = 3 by omega) with rfl | rfl | rfl | rfl
    · exact va_eqt h0
    · exact va_eqt h1
    · exact va_eqt h2
    · exact va_eqt h3) hA
  exact ⟨ko, va_Zof (hts _ (List.mem_of_getElem? (i := 404) (by decide +kernel))) (hts _ (List.mem_of_getElem? (i := 34) (by decide +kernel))) ev hA, hT⟩
set_option maxHeartbeats 8000000 in
set_option maxRecDepth 100000 in
theorem lw_go (l : Launch) (hL : L ≤ 4096) (C0 : lw_At p s m meth c b L xs) (ls : Array Slot) (hl : lv_has ls 4 [(0, .ref b)]) : W p l e room_1 s m #[Value.ref b] below meth c s.heap [] 0 0 (lw_Z below #[Value.ref b] s) (F0 m 0 ls []) := by
  obtain ⟨D, ca, hE⟩ := lw_env C0
  obtain ⟨hx, hb, hr, hml, hown, hts, hX, hbl, hlk, hgv⟩ := id C0
  have ht : ∀ w ∈ gTb, w.before #[Value.ref b] s = true := fun w hw => hts w (gTb_in hw)
  have hA : ∀ q : Nat, s.heap.size ≤ q → lw_A s q := fun _ h => h
  have hP : va_P D vwCl [] s.heap := fun k q h => by simp at h
  have hD : va_D (lw_A s) [] := ⟨fun i j x y h => by simp at h, fun k q h => by simp at h⟩
  have hS : va_S (lw_A s) s.heap s.heap [] := va_S.rf
  refine va_new (ci := 9) (fs := [.null, .null, .null, .null, .int 0, .int 0]) (C := RX9) (T := TX9) (N := 6) hx hb ht uX9 tyX9 tyX9_ok hown (ht _ m_46) (ht _ m_47) (ht _ m_31) hE.1 hP hD hS hA rfl (fun j hj => by rcases (show j = 0 ∨ j = 1 ∨ j = 2 ∨ j = 3 ∨ j = 4 ∨ j = 5 by omega) with rfl | rfl | rfl | rfl | rfl | rfl <;> rfl) (Nat.le_of_ble_eq_true rfl) (Nat.le_of_ble_eq_true rfl) dL_law_0 (fun q0 H hP hD hS => ?_)
  refine W.widen (k := 1) (n := 6) (Nat.le_of_ble_eq_true rfl) (Nat.le_of_ble_eq_true rfl) ?_
  refine lv_dup hx hb dL_law_3 rfl ?_
  refine i_callI (ws := []) (q0 := q0) (n := 0) (rest := [.ref q0]) hx hb hml hown ht (i_X9 l D ca) m_48 m_49 m_31 m_50 rfl ⟨by decide, by decide, by decide⟩ hE hP hD hS hA rfl hl.1 rfl (Nat.le_of_ble_eq_true rfl) dL_law_4 ⟨(Nat.le_of_ble_eq_true rfl), (Nat.le_of_ble_eq_true rfl)⟩ 100 1512 (Nat.le_of_ble_eq_true rfl) (Nat.le_of_ble_eq_true rfl) ⟨(Nat.le_of_ble_eq_true rfl), (Nat.le_of_ble_eq_true rfl)⟩ (fun a H locs hP hD hS => ?_)
  refine lv_astore_n (lv' := [(1, .ref q0), (0, .ref b)]) hx hb dL_law_7 rfl hl (by decide) rfl (fun ls hl => ?_)
  refine va_new (ci := 10) (fs := [.null, .null, .int 0, .int 0, .null, .null, .null, .int 0, .null, .int 0, .null, .null, .null]) (C := RX10) (T := TX10) (N := 13) hx hb ht uX10 tyX10 tyX10_ok hown (ht _ m_784) (ht _ m_785) (ht _ m_41) hE.1 hP hD hS hA rfl (fun j hj => by rcases (show j = 0 ∨ j = 1 ∨ j = 2 ∨ j = 3 ∨ j = 4 ∨ j = 5 ∨ j = 6 ∨ j = 7 ∨ j = 8 ∨ j = 9 ∨ j = 10 ∨ j = 11 ∨ j = 12 by omega) with rfl | rfl | rfl | rfl | rfl | rfl | rfl | rfl | rfl | rfl | rfl | rfl | rfl <;> rfl) (Nat.le_of_ble_eq_true rfl) (Nat.le_of_ble_eq_true rfl) dL_law_8 (fun q8 H hP hD hS => ?_)
  refine W.widen (k := 101) (n := 1525) (Nat.le_of_ble_eq_true rfl) (Nat.le_of_ble_eq_true rfl) ?_
  refine lv_dup hx hb dL_law_11 rfl ?_
  refine i_callI (ws := wX9 ca q0 a) (q0 := q8) (n := 0) (rest := [.ref q8]) hx hb hml hown ht (i_X10 l D ca) m_786 m_787 m_41 m_788 rfl ⟨by decide, by decide, by decide⟩ hE hP hD hS hA rfl hl.1 rfl (Nat.le_of_ble_eq_true rfl) dL_law_12 ⟨(Nat.le_of_ble_eq_true rfl), (Nat.le_of_ble_eq_true rfl)⟩ 110 3205 (Nat.le_of_ble_eq_true rfl) (Nat.le_of_ble_eq_true rfl) ⟨(Nat.le_of_ble_eq_true rfl), (Nat.le_of_ble_eq_true rfl)⟩ (fun b2 H locs hP hD hS => ?_)
  refine lv_astore_n (lv' := [(2, .ref q8), (1, .ref q0), (0, .ref b)]) hx hb dL_law_15 rfl hl (by decide) rfl (fun ls hl => ?_)
  refine lv_iconst (v := 0) hx hb dL_law_16 (by decide) ?_
  refine lv_istore_n (lv' := [(3, .int 0), (2, .ref q8), (1, .ref q0), (0, .ref b)]) hx hb dL_law_17 rfl hl (by decide) rfl (fun ls hl => ?_)
  rw [lw_flat] at hP hD
  have hfit := lw_fit D ca q0 a q8 b2
  have hAd : ∀ q, (∃ k, k < gN ∧ lw_ad q0 a q8 b2 k = q) → s.heap.size ≤ q := by
    rintro q ⟨k, hk, rfl⟩
    exact hD.2 _ _ (hfit 0 k hk)
  obtain ⟨ko, hZ, hT⟩ := lw_kind C0 (A := fun q => ∃ k, k < gN ∧ lw_ad q0 a q8 b2 k = q) (fun q h1 h2 => by have := hAd q h2; omega)
  have hW : gW (D, ca, lw_ad q0 a q8 b2, ko) g0 H := by
    intro k x hx
    obtain ⟨hk, rfl⟩ := gWl_of hx
    exact hP _ _ (hfit ko k hk)
  have hGD : gD (D, ca, lw_ad q0 a q8 b2, ko) := by
    intro i j hi hj h
    have := hD.1 _ _ _ _ (hfit ko i hi) (hfit ko j hj) h
    have h1 : i < 110 := hi
    have h2 : j < 110 := hj
    unfold lw_pi at this
    split at this <;> split at this <;> (try split at this) <;> (try split at this) <;> (try split at this) <;> (try split at this) <;> (try split at this) <;> (try split at this) <;> (try split at this) <;> (try split at this) <;> omega
  have hEnv : gEnv (D, ca, lw_ad q0 a q8 b2, ko) s := ⟨hGD, hE.1, lw_nest C0, hZ, hT⟩
  have hK : lw_K p s m c b L xs (D, ca, lw_ad q0 a q8 b2, ko) 110 3205 := ⟨hx, hb, hml, hown, ht, hX, hbl, hEnv, hAd, by decide, by decide, hL⟩
  exact lw_loop hK hr hlk (L + 1) 0 g0 H locs ls (by omega) (by omega) Inv_g0 hW hS hl
end LW3
theorem whole_start {p : Program} {e : Env} {s : State} {m : MethodId} {below : List Frame} {meth : Method} {c : Code} (l : Launch) {b L : Nat} {xs : Nat → Int32} (hL : L ≤ 4096) (C0 : lw_At p s m meth c b L xs) : W p l e room_1 s m #[Value.ref b] below meth c s.heap [] 0 0 (lw_Z below #[Value.ref b] s) (entryFrame m ([Value.ref b] : List Value).toArray 4) := by
  rw [lg_entry_eq]
  exact lw_go l hL C0 _ (lv_entry [Value.ref b] (Nat.le_of_ble_eq_true rfl))
