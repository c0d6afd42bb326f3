theorem Bk.cong {c c' : gSt} {N N' : Nat → Int32} (h : Bk c N) (hN : ∀ i, i < 549 → N' i = N i) (hcol : ∀ q ∈ colT, ∀ j, j < q.2.2.2 → c' q.1 (q.2.1 + j) = c q.1 (q.2.1 + j)) (h16 : ∀ j, j < 10 → c' 16 j = c 16 j) (h21 : ∀ j, j < 24 → c' 21 j = c 21 j) (h28 : ∀ j, j < 12 → c' 28 j = c 28 j) : Bk c' N' := by
  obtain ⟨hC, hX, np, nq, nf, nl, no, hR⟩ := h
  have hc5 : ∀ q ∈ colT, q.2.2.1 + q.2.2.2 ≤ 549 := by decide +kernel
  refine ⟨fun q hq j hj => ?_, ?_, np, nq, nf, nl, no, ?_⟩
  · have := hc5 q hq
    rw [hcol q hq j hj, hN _ (by omega)]
    exact hC q hq j hj
  · obtain ⟨x1, x2, x3⟩ := hX
    refine ⟨fun j hj => ?_, fun j hj => ?_, fun j hj => ?_⟩
    · rw [h16 j hj, hN _ (by omega), hN _ (by omega)]; exact x1 j hj
    · rw [h21 j hj, hN _ (by omega), hN _ (by omega)]; exact x2 j hj
    · rw [h28 j hj, hN _ (by omega), hN _ (by omega)]; exact x3 j hj
  · obtain ⟨rA, rT, rW, rP, rS, rZ, rL, rF, rD, rO⟩ := hR
    obtain ⟨⟨m0, m1, m2, m3, m4⟩, b0, b1, b2, b3, b4⟩ := rA
    exact ⟨⟨⟨by rw [hN _ (by omega)]; exact m0, by rw [hN _ (by omega)]; exact m1, by rw [hN _ (by omega)]; exact m2, by rw [hN _ (by omega)]; exact m3, by rw [hN _ (by omega)]; exact m4⟩, b0, b1, b2, b3, b4⟩, rT.same (hN _ (by omega)), rW.same (fun i hi => hN i (by omega)), rP.same (fun i hi => hN i (by omega)), rS.same (fun i hi => hN i (by omega)), rZ.same (by omega) (fun j h1 h2 => ⟨hN _ (by omega), hN _ (by omega), hN _ (by omega)⟩), rL.same (by omega) (fun i hi => hN i (by omega)), rF.same (fun i hi => hN i (by omega)), rD.same (fun i hi => hN i (by omega)) (by omega), rO.same (by omega) (by omega) (fun i hi => hN i (by omega))⟩
theorem cols_k {σ σ' : gSt} (g1 : σ' 43 6 = σ 1 6) (s2 : σ' 44 0 = σ 2 0) (s11 : σ' 53 0 = σ 11 0) (s17 : σ' 59 0 = σ 17 0) (s26 : σ' 68 0 = σ 26 0) (s31 : σ' 73 0 = σ 31 0) (s38 : σ' 80 0 = σ 38 0) (r3 : ∀ j, j < 6 → σ' 45 j = σ 3 j) (r5 : ∀ j, j < 6 → σ' 47 j = σ 5 j) (r6 : ∀ j, j < 6 → σ' 48 j = σ 6 j) (r7 : ∀ j, j < 6 → σ' 49 j = σ 7 j) (r8 : ∀ j, j < 6 → σ' 50 j = σ 8 j) (r9 : ∀ j, j < 6 → σ' 51 j = σ 9 j) (r10 : ∀ j, j < 6 → σ' 52 j = σ 10 j) (r12 : ∀ j, j < 10 → σ' 54 j = σ 12 j) (r13 : ∀ j, j < 10 → σ' 55 j = σ 13 j) (r14 : ∀ j, j < 10 → σ' 56 j = σ 14 j) (r15 : ∀ j, j < 10 → σ' 57 j = σ 15 j) (r16 : ∀ j, j < 10 → σ' 58 j = σ 16 j) (r18 : ∀ j, j < 24 → σ' 60 j = σ 18 j) (r19 : ∀ j, j < 24 → σ' 61 j = σ 19 j) (r20 : ∀ j, j < 24 → σ' 62 j = σ 20 j) (r21 : ∀ j, j < 24 → σ' 63 j = σ 21 j) (r22 : ∀ j, j < 24 → σ' 64 j = σ 22 j) (r23 : ∀ j, j < 24 → σ' 65 j = σ 23 j) (r24 : ∀ j, j < 24 → σ' 66 j = σ 24 j) (r25 : ∀ j, j < 24 → σ' 67 j = σ 25 j) (r27 : ∀ j, j < 12 → σ' 69 j = σ 27 j) (r28 : ∀ j, j < 12 → σ' 70 j = σ 28 j) (r29 : ∀ j, j < 12 → σ' 71 j = σ 29 j) (r30 : ∀ j, j < 12 → σ' 72 j = σ 30 j) (r32 : ∀ j, j < 20 → σ' 74 j = σ 32 j) (r33 : ∀ j, j < 20 → σ' 75 j = σ 33 j) (r34 : ∀ j, j < 20 → σ' 76 j = σ 34 j) (r35 : ∀ j, j < 20 → σ' 77 j = σ 35 j) (r36 : ∀ j, j < 20 → σ' 78 j = σ 36 j) (r37 : ∀ j, j < 20 → σ' 79 j = σ 37 j) (r39 : ∀ j, j < 10 → σ' 81 j = σ 39 j) (r40 : ∀ j, j < 10 → σ' 82 j = σ 40 j) (r41 : ∀ j, j < 10 → σ' 83 j = σ 41 j) (r42 : ∀ j, j < 60 → σ' 84 j = σ 42 j) : ∀ q ∈ colT, ∀ j, j < q.2.2.2 → (fun k => σ' (k + 42)) q.1 (q.2.1 + j) = σ q.1 (q.2.1 + j) := by
  intro q hq j hj
  simp only [colT, List.mem_cons, List.not_mem_nil, or_false] at hq
  rcases hq with rfl | rfl | rfl | rfl | rfl | rfl | rfl | rfl | rfl | rfl | rfl | rfl | rfl | rfl | rfl | rfl | rfl | rfl | rfl | rfl | rfl | rfl | rfl | rfl | rfl | rfl | rfl | rfl | rfl | rfl | rfl | rfl | rfl | rfl | rfl | rfl | rfl | rfl
  · have e : j = 0 := by dsimp only at hj; omega
    subst e
    exact s2
  · have e : j = 0 := by dsimp only at hj; omega
    subst e
    exact s11
  · have e : j = 0 := by dsimp only at hj; omega
    subst e
    exact s17
  · have e : j = 0 := by dsimp only at hj; omega
    subst e
    exact s26
  · have e : j = 0 := by dsimp only at hj; omega
    subst e
    exact s31
  · have e : j = 0 := by dsimp only at hj; omega
    subst e
    exact g1
  · have e : j = 0 := by dsimp only at hj; omega
    subst e
    exact s38
  · dsimp only at hj
    show σ' 45 (0 + j) = σ 3 (0 + j)
    rw [Nat.zero_add]
    exact r3 j hj
  · dsimp only at hj
    show σ' 47 (0 + j) = σ 5 (0 + j)
    rw [Nat.zero_add]
    exact r5 j hj
  · dsimp only at hj
    show σ' 48 (0 + j) = σ 6 (0 + j)
    rw [Nat.zero_add]
    exact r6 j hj
  · dsimp only at hj
    show σ' 49 (0 + j) = σ 7 (0 + j)
    rw [Nat.zero_add]
    exact r7 j hj
  · dsimp only at hj
    show σ' 50 (0 + j) = σ 8 (0 + j)
    rw [Nat.zero_add]
    exact r8 j hj
  · dsimp only at hj
    show σ' 51 (0 + j) = σ 9 (0 + j)
    rw [Nat.zero_add]
    exact r9 j hj
  · dsimp only at hj
    show σ' 52 (0 + j) = σ 10 (0 + j)
    rw [Nat.zero_add]
    exact r10 j hj
  · dsimp only at hj
    show σ' 54 (0 + j) = σ 12 (0 + j)
    rw [Nat.zero_add]
    exact r12 j hj
  · dsimp only at hj
    show σ' 55 (0 + j) = σ 13 (0 + j)
    rw [Nat.zero_add]
    exact r13 j hj
  · dsimp only at hj
    show σ' 56 (0 + j) = σ 14 (0 + j)
    rw [Nat.zero_add]
    exact r14 j hj
  · dsimp only at hj
    show σ' 57 (0 + j) = σ 15 (0 + j)
    rw [Nat.zero_add]
    exact r15 j hj
  · dsimp only at hj
    show σ' 81 (0 + j) = σ 39 (0 + j)
    rw [Nat.zero_add]
    exact r39 j hj
  · dsimp only at hj
    show σ' 82 (0 + j) = σ 40 (0 + j)
    rw [Nat.zero_add]
    exact r40 j hj
  · dsimp only at hj
    show σ' 83 (0 + j) = σ 41 (0 + j)
    rw [Nat.zero_add]
    exact r41 j hj
  · dsimp only at hj
    show σ' 60 (0 + j) = σ 18 (0 + j)
    rw [Nat.zero_add]
    exact r18 j hj
  · dsimp only at hj
    show σ' 61 (0 + j) = σ 19 (0 + j)
    rw [Nat.zero_add]
    exact r19 j hj
  · dsimp only at hj
    show σ' 62 (0 + j) = σ 20 (0 + j)
    rw [Nat.zero_add]
    exact r20 j hj
  · dsimp only at hj
    show σ' 64 (0 + j) = σ 22 (0 + j)
    rw [Nat.zero_add]
    exact r22 j hj
  · dsimp only at hj
    show σ' 65 (0 + j) = σ 23 (0 + j)
    rw [Nat.zero_add]
    exact r23 j hj
  · dsimp only at hj
    show σ' 66 (0 + j) = σ 24 (0 + j)
    rw [Nat.zero_add]
    exact r24 j hj
  · dsimp only at hj
    show σ' 67 (0 + j) = σ 25 (0 + j)
    rw [Nat.zero_add]
    exact r25 j hj
  · dsimp only at hj
    show σ' 69 (0 + j) = σ 27 (0 + j)
    rw [Nat.zero_add]
    exact r27 j hj
  · dsimp only at hj
    show σ' 71 (0 + j) = σ 29 (0 + j)
    rw [Nat.zero_add]
    exact r29 j hj
  · dsimp only at hj
    show σ' 72 (0 + j) = σ 30 (0 + j)
    rw [Nat.zero_add]
    exact r30 j hj
  · dsimp only at hj
    show σ' 74 (0 + j) = σ 32 (0 + j)
    rw [Nat.zero_add]
    exact r32 j hj
  · dsimp only at hj
    show σ' 75 (0 + j) = σ 33 (0 + j)
    rw [Nat.zero_add]
    exact r33 j hj
  · dsimp only at hj
    show σ' 76 (0 + j) = σ 34 (0 + j)
    rw [Nat.zero_add]
    exact r34 j hj
  · dsimp only at hj
    show σ' 77 (0 + j) = σ 35 (0 + j)
    rw [Nat.zero_add]
    exact r35 j hj
  · dsimp only at hj
    show σ' 78 (0 + j) = σ 36 (0 + j)
    rw [Nat.zero_add]
    exact r36 j hj
  · dsimp only at hj
    show σ' 79 (0 + j) = σ 37 (0 + j)
    rw [Nat.zero_add]
    exact r37 j hj
  · dsimp only at hj
    show σ' 84 (0 + j) = σ 42 (0 + j)
    rw [Nat.zero_add]
    exact r42 j hj
theorem cols_b {σ σ' : gSt} (g1 : σ' 1 6 = σ 43 6) (s2 : σ' 2 0 = σ 44 0) (s11 : σ' 11 0 = σ 53 0) (s17 : σ' 17 0 = σ 59 0) (s26 : σ' 26 0 = σ 68 0) (s31 : σ' 31 0 = σ 73 0) (s38 : σ' 38 0 = σ 80 0) (r3 : ∀ j, j < 6 → σ' 3 j = σ 45 j) (r5 : ∀ j, j < 6 → σ' 5 j = σ 47 j) (r6 : ∀ j, j < 6 → σ' 6 j = σ 48 j) (r7 : ∀ j, j < 6 → σ' 7 j = σ 49 j) (r8 : ∀ j, j < 6 → σ' 8 j = σ 50 j) (r9 : ∀ j, j < 6 → σ' 9 j = σ 51 j) (r10 : ∀ j, j < 6 → σ' 10 j = σ 52 j) (r12 : ∀ j, j < 10 → σ' 12 j = σ 54 j) (r13 : ∀ j, j < 10 → σ' 13 j = σ 55 j) (r14 : ∀ j, j < 10 → σ' 14 j = σ 56 j) (r15 : ∀ j, j < 10 → σ' 15 j = σ 57 j) (r16 : ∀ j, j < 10 → σ' 16 j = σ 58 j) (r18 : ∀ j, j < 24 → σ' 18 j = σ 60 j) (r19 : ∀ j, j < 24 → σ' 19 j = σ 61 j) (r20 : ∀ j, j < 24 → σ' 20 j = σ 62 j) (r21 : ∀ j, j < 24 → σ' 21 j = σ 63 j) (r22 : ∀ j, j < 24 → σ' 22 j = σ 64 j) (r23 : ∀ j, j < 24 → σ' 23 j = σ 65 j) (r24 : ∀ j, j < 24 → σ' 24 j = σ 66 j) (r25 : ∀ j, j < 24 → σ' 25 j = σ 67 j) (r27 : ∀ j, j < 12 → σ' 27 j = σ 69 j) (r28 : ∀ j, j < 12 → σ' 28 j = σ 70 j) (r29 : ∀ j, j < 12 → σ' 29 j = σ 71 j) (r30 : ∀ j, j < 12 → σ' 30 j = σ 72 j) (r32 : ∀ j, j < 20 → σ' 32 j = σ 74 j) (r33 : ∀ j, j < 20 → σ' 33 j = σ 75 j) (r34 : ∀ j, j < 20 → σ' 34 j = σ 76 j) (r35 : ∀ j, j < 20 → σ' 35 j = σ 77 j) (r36 : ∀ j, j < 20 → σ' 36 j = σ 78 j) (r37 : ∀ j, j < 20 → σ' 37 j = σ 79 j) (r39 : ∀ j, j < 10 → σ' 39 j = σ 81 j) (r40 : ∀ j, j < 10 → σ' 40 j = σ 82 j) (r41 : ∀ j, j < 10 → σ' 41 j = σ 83 j) (r42 : ∀ j, j < 60 → σ' 42 j = σ 84 j) : ∀ q ∈ colT, ∀ j, j < q.2.2.2 → σ' q.1 (q.2.1 + j) = (fun k => σ (k + 42)) q.1 (q.2.1 + j) := by
  intro q hq j hj
  simp only [colT, List.mem_cons, List.not_mem_nil, or_false] at hq
  rcases hq with rfl | rfl | rfl | rfl | rfl | rfl | rfl | rfl | rfl | rfl | rfl | rfl | rfl | rfl | rfl | rfl | rfl | rfl | rfl | rfl | rfl | rfl | rfl | rfl | rfl | rfl | rfl | rfl | rfl | rfl | rfl | rfl | rfl | rfl | rfl | rfl | rfl | rfl
  · have e : j = 0 := by dsimp only at hj; omega
    subst e
    exact s2
  · have e : j = 0 := by dsimp only at hj; omega
    subst e
    exact s11
  · have e : j = 0 := by dsimp only at hj; omega
    subst e
    exact s17
  · have e : j = 0 := by dsimp only at hj; omega
    subst e
    exact s26
  · have e : j = 0 := by dsimp only at hj; omega
    subst e
    exact s31
  · have e : j = 0 := by dsimp only at hj; omega
    subst e
    exact g1
  · have e : j = 0 := by dsimp only at hj; omega
    subst e
    exact s38
  · dsimp only at hj
    show σ' 3 (0 + j) = σ 45 (0 + j)
    rw [Nat.zero_add]
    exact r3 j hj
  · dsimp only at hj
    show σ' 5 (0 + j) = σ 47 (0 + j)
    rw [Nat.zero_add]
    exact r5 j hj
  · dsimp only at hj
    show σ' 6 (0 + j) = σ 48 (0 + j)
    rw [Nat.zero_add]
    exact r6 j hj
  · dsimp only at hj
    show σ' 7 (0 + j) = σ 49 (0 + j)
    rw [Nat.zero_add]
    exact r7 j hj
  · dsimp only at hj
    show σ' 8 (0 + j) = σ 50 (0 + j)
    rw [Nat.zero_add]
    exact r8 j hj
  · dsimp only at hj
    show σ' 9 (0 + j) = σ 51 (0 + j)
    rw [Nat.zero_add]
    exact r9 j hj
  · dsimp only at hj
    show σ' 10 (0 + j) = σ 52 (0 + j)
    rw [Nat.zero_add]
    exact r10 j hj
  · dsimp only at hj
    show σ' 12 (0 + j) = σ 54 (0 + j)
    rw [Nat.zero_add]
    exact r12 j hj
  · dsimp only at hj
    show σ' 13 (0 + j) = σ 55 (0 + j)
    rw [Nat.zero_add]
    exact r13 j hj
  · dsimp only at hj
    show σ' 14 (0 + j) = σ 56 (0 + j)
    rw [Nat.zero_add]
    exact r14 j hj
  · dsimp only at hj
    show σ' 15 (0 + j) = σ 57 (0 + j)
    rw [Nat.zero_add]
    exact r15 j hj
  · dsimp only at hj
    show σ' 39 (0 + j) = σ 81 (0 + j)
    rw [Nat.zero_add]
    exact r39 j hj
  · dsimp only at hj
    show σ' 40 (0 + j) = σ 82 (0 + j)
    rw [Nat.zero_add]
    exact r40 j hj
  · dsimp only at hj
    show σ' 41 (0 + j) = σ 83 (0 + j)
    rw [Nat.zero_add]
    exact r41 j hj
  · dsimp only at hj
    show σ' 18 (0 + j) = σ 60 (0 + j)
    rw [Nat.zero_add]
    exact r18 j hj
  · dsimp only at hj
    show σ' 19 (0 + j) = σ 61 (0 + j)
    rw [Nat.zero_add]
    exact r19 j hj
  · dsimp only at hj
    show σ' 20 (0 + j) = σ 62 (0 + j)
    rw [Nat.zero_add]
    exact r20 j hj
  · dsimp only at hj
    show σ' 22 (0 + j) = σ 64 (0 + j)
    rw [Nat.zero_add]
    exact r22 j hj
  · dsimp only at hj
    show σ' 23 (0 + j) = σ 65 (0 + j)
    rw [Nat.zero_add]
    exact r23 j hj
  · dsimp only at hj
    show σ' 24 (0 + j) = σ 66 (0 + j)
    rw [Nat.zero_add]
    exact r24 j hj
  · dsimp only at hj
    show σ' 25 (0 + j) = σ 67 (0 + j)
    rw [Nat.zero_add]
    exact r25 j hj
  · dsimp only at hj
    show σ' 27 (0 + j) = σ 69 (0 + j)
    rw [Nat.zero_add]
    exact r27 j hj
  · dsimp only at hj
    show σ' 29 (0 + j) = σ 71 (0 + j)
    rw [Nat.zero_add]
    exact r29 j hj
  · dsimp only at hj
    show σ' 30 (0 + j) = σ 72 (0 + j)
    rw [Nat.zero_add]
    exact r30 j hj
  · dsimp only at hj
    show σ' 32 (0 + j) = σ 74 (0 + j)
    rw [Nat.zero_add]
    exact r32 j hj
  · dsimp only at hj
    show σ' 33 (0 + j) = σ 75 (0 + j)
    rw [Nat.zero_add]
    exact r33 j hj
  · dsimp only at hj
    show σ' 34 (0 + j) = σ 76 (0 + j)
    rw [Nat.zero_add]
    exact r34 j hj
  · dsimp only at hj
    show σ' 35 (0 + j) = σ 77 (0 + j)
    rw [Nat.zero_add]
    exact r35 j hj
  · dsimp only at hj
    show σ' 36 (0 + j) = σ 78 (0 + j)
    rw [Nat.zero_add]
    exact r36 j hj
  · dsimp only at hj
    show σ' 37 (0 + j) = σ 79 (0 + j)
    rw [Nat.zero_add]
    exact r37 j hj
  · dsimp only at hj
    show σ' 42 (0 + j) = σ 84 (0 + j)
    rw [Nat.zero_add]
    exact r42 j hj
theorem l_keep {σ : gSt} {K : Int32 → gSt → gO} : ∀ (d i m : Nat), i + d = 549 → d < m → L1_X10_keep m (nI i) (gRow σ 103 (fa_fill (σ 102) (σ 103) i)) K = K (nI 549) (gRow σ 103 (fa_fill (σ 102) (σ 103) 549)) := by
  intro d
  induction d with
  | zero =>
    intro i m hi hm
    obtain ⟨m, rfl⟩ : ∃ q, m = q + 1 := ⟨m - 1, by omega⟩
    have e : i = 549 := by omega
    subst e
    rw [L1_X10_keep, if_pos (show (549 : Int32) ≤ nI 549 by decide)]
  | succ d ih =>
    intro i m hi hm
    obtain ⟨m, rfl⟩ : ∃ q, m = q + 1 := ⟨m - 1, by omega⟩
    rw [L1_X10_keep, if_neg (show ¬ (549 : Int32) ≤ nI i from nle (b := 549) (by omega) (by omega)), gIx_n (by omega) (by omega), gIx_n (by omega) (by omega), gNm_e, gNm_e, nI_tn (by omega), gUp_row, nI_1, gRow_n (show 102 ≠ 103 by decide), fa_fill_succ]
    exact ih (i + 1) m (by omega) (by omega)
theorem l_back {σ : gSt} {K : Int32 → gSt → gO} : ∀ (d i m : Nat), i + d = 549 → d < m → L2_X10_back m (nI i) (gRow σ 102 (fa_fill (σ 103) (σ 102) i)) K = K (nI 549) (gRow σ 102 (fa_fill (σ 103) (σ 102) 549)) := by
  intro d
  induction d with
  | zero =>
    intro i m hi hm
    obtain ⟨m, rfl⟩ : ∃ q, m = q + 1 := ⟨m - 1, by omega⟩
    have e : i = 549 := by omega
    subst e
    rw [L2_X10_back, if_pos (show (549 : Int32) ≤ nI 549 by decide)]
  | succ d ih =>
    intro i m hi hm
    obtain ⟨m, rfl⟩ : ∃ q, m = q + 1 := ⟨m - 1, by omega⟩
    rw [L2_X10_back, if_neg (show ¬ (549 : Int32) ≤ nI i from nle (b := 549) (by omega) (by omega)), gIx_n (by omega) (by omega), gIx_n (by omega) (by omega), gNm_e, gNm_e, nI_tn (by omega), gUp_row, nI_1, gRow_n (show 103 ≠ 102 by decide), fa_fill_succ]
    exact ih (i + 1) m (by omega) (by omega)
theorem t_keep {σ : gSt} (h : Inv σ) : Agr M_X9_keep M_X10_keep σ := by
  obtain ⟨np, nq, nf, nl, no, hR, hC, hX, ⟨k0, k1, k2, k3, k4⟩, ⟨m0, m1, m2, m3, m4⟩, ⟨b0, b1, b2, b3, b4⟩⟩ := h.nums
  obtain ⟨σ', q, f, g1, s2, s11, s17, s26, s31, s38, r3, r5, r6, r7, r8, r9, r10, r12, r13, r14, r15, r16, r18, r19, r20, r21, r22, r23, r24, r25, r27, r28, r29, r30, r32, r33, r34, r35, r36, r37, r39, r40, r41, r42⟩ := e0_become_k σ
  have e11 : σ' 11 0 = nI nq := by rw [f 11 (by omega)]; exact k1
  have e102 : σ' 102 = σ 102 := f 102 (by omega)
  have L := l_keep (σ := gUp σ' 0 4 1) (K := fun _ σ8 => gNm (gUp σ8 101 2 1) (fun σ9 => gIx 549 1 (some (σ9 102 (1 : Int32).toNatClampNeg, σ9)))) 549 0 gFu (by omega) (fu _ (by omega))
  rw [fill0, gRow_id rfl, nI_0] at L
  refine ⟨nI nq, gUp σ' 0 4 1, gUp (gRow (gUp σ' 0 4 1) 103 (fa_fill (σ 102) (σ 103) 549)) 101 2 1, ?_, ?_, ?_⟩
  · simp (disch := omega) only [M_X9_keep, q, ↓gBd_s, ↓gNm_e, ↓b9_within, ↓b10_within, ↓b9_isDay, ↓b10_isDay, ↓b9_isWeek, ↓b10_isWeek, ↓b9_isSheet, ↓b10_isSheet, ↓b9_finding, ↓b10_finding, ↓b4_has, ↓b5_has, ↓b1_has, ↓b2_has, ↓b3_has, ↓b10_isParishU, ↓b10_isPersonU, ↓b10_isOrderU, ↓gIx_c0, ↓gIx_c1, ↓gIx_c2, ↓gIx_c3, ↓gIx_c4, ↓gIx_c5, ↓gIx_c6, ↓gIx_n, ↓gx_7, ↓gx_13, ↓gx_49, ↓gx_59, ↓gx_69, ↓gx_79, ↓gx_89, ↓gx_99, ↓gx_109, ↓gx_119, ↓gx_129, ↓gx_153, ↓gx_177, ↓gx_201, ↓gx_225, ↓gx_249, ↓gx_273, ↓gx_297, ↓gx_321, ↓gx_333, ↓gx_345, ↓gx_357, ↓gx_369, ↓gx_389, ↓gx_409, ↓gx_429, ↓gx_449, ↓gx_469, ↓gx_489, ↓gx_5, ↓ite_bz, e9_within, e10_within, e9_isDay, e10_isDay, e9_isWeek, e10_isWeek, e9_isSheet, e10_isSheet, e9_finding, e10_finding, e4_has, e5_has, e1_has, e2_has, e3_has, e10_isParishU, e10_isPersonU, e10_isOrderU, le_p, tn0, tn1, tn2, tn3, tn4, tn5, tn6, gUp_n, gUp_s, upd_s, upd_n, nI_add, nI_1, nI_tn, nI_p1, if_true, if_false, bz0, not_true_eq_false, not_false_eq_true, true_and, and_true, ne_eq, and_self, li_7, li_13, li_49, li_59, li_69, li_79, li_89, li_99, li_109, li_119, li_129, li_153, li_177, li_201, li_225, li_249, li_273, li_297, li_321, li_333, li_345, li_357, li_369, li_389, li_409, li_429, li_449, li_469, li_489, li_5, lm_6, lm_20, lm_60, lm_4, e11]
  · unfold M_X10_keep
    rw [L, gNm_e, gIx_c1, tn1]
    simp (disch := omega) only [gUp_n, gR_n, e102, m1, f 103 (by omega)]
  · obtain ⟨hb, hkp, h3, h4, h5⟩ := h
    have e0 : ∀ k, k ≠ 0 → k ≠ 101 → k ≠ 103 → (k < 43 ∨ 84 < k) → gUp (gRow (gUp σ' 0 4 1) 103 (fa_fill (σ 102) (σ 103) 549)) 101 2 1 k = σ k := by
      intro k a b c d
      rw [gUp_n b, gRow_n c, gUp_n a, f k d]
    have ek : ∀ k, 43 ≤ k → k ≤ 84 → gUp (gRow (gUp σ' 0 4 1) 103 (fa_fill (σ 102) (σ 103) 549)) 101 2 1 k = σ' k := by
      intro k a b
      rw [gUp_n (by omega), gRow_n (by omega), gUp_n (by omega)]
    refine ⟨?_, ?_, ?_, ?_, ?_⟩
    · rw [e0 102 (by omega) (by omega) (by omega) (by omega)]
      exact hb.same (fun k a b => e0 k (by omega) (by omega) (by omega) (by omega))
    · intro _
      rw [show gUp (gRow (gUp σ' 0 4 1) 103 (fa_fill (σ 102) (σ 103) 549)) 101 2 1 103 = fa_fill (σ 102) (σ 103) 549 by rw [gUp_n (by omega), gRow_s]]
      refine Bk.same (c := fun k => σ' (k + 42)) ?_ (fun k a b => ek _ (by omega) (by omega))
      exact hb.cong (fun i hi => fa_fill_in hi) (cols_k g1 s2 s11 s17 s26 s31 s38 r3 r5 r6 r7 r8 r9 r10 r12 r13 r14 r15 r16 r18 r19 r20 r21 r22 r23 r24 r25 r27 r28 r29 r30 r32 r33 r34 r35 r36 r37 r39 r40 r41 r42) r16 r21 r28
    · rw [gUp_s, upd_s, gUp_n (by omega), gRow_n (by omega), gUp_s, upd_s]
      exact ⟨rfl, Or.inr rfl⟩
    · rw [gUp_s, upd_n (by decide), gRow_n (by omega), gUp_n (by omega), gUp_n (by omega), gRow_n (by omega), gUp_s, upd_n (by decide), f 0 (by omega), f 101 (by omega)]
      exact h4
    · intro j hj
      rw [e0 104 (by omega) (by omega) (by omega) (by omega), e0 105 (by omega) (by omega) (by omega) (by omega), e0 106 (by omega) (by omega) (by omega) (by omega), e0 (93 + j) (by omega) (by omega) (by omega) (by omega), e0 (97 + j) (by omega) (by omega) (by omega) (by omega)]
      exact h5 j hj
theorem t_back {σ : gSt} (h : Inv σ) : Agr M_X9_back M_X10_back σ := by
  obtain ⟨hb, hkp, ⟨h3, h3'⟩, h4, h5⟩ := id h
  rcases h3' with z | z
  · have z0 : σ 0 4 = 0 := h3.trans z
    exact Agr.find h (-100006) (by simp (disch := omega) [M_X9_back, ↓gBd_s, ↓gNm_e, ↓b9_within, ↓b10_within, ↓b9_isDay, ↓b10_isDay, ↓b9_isWeek, ↓b10_isWeek, ↓b9_isSheet, ↓b10_isSheet, ↓b9_finding, ↓b10_finding, ↓b4_has, ↓b5_has, ↓b1_has, ↓b2_has, ↓b3_has, ↓b10_isParishU, ↓b10_isPersonU, ↓b10_isOrderU, ↓gIx_c0, ↓gIx_c1, ↓gIx_c2, ↓gIx_c3, ↓gIx_c4, ↓gIx_c5, ↓gIx_c6, ↓gIx_n, ↓gx_7, ↓gx_13, ↓gx_49, ↓gx_59, ↓gx_69, ↓gx_79, ↓gx_89, ↓gx_99, ↓gx_109, ↓gx_119, ↓gx_129, ↓gx_153, ↓gx_177, ↓gx_201, ↓gx_225, ↓gx_249, ↓gx_273, ↓gx_297, ↓gx_321, ↓gx_333, ↓gx_345, ↓gx_357, ↓gx_369, ↓gx_389, ↓gx_409, ↓gx_429, ↓gx_449, ↓gx_469, ↓gx_489, ↓gx_5, ↓ite_bz, e9_within, e10_within, e9_isDay, e10_isDay, e9_isWeek, e10_isWeek, e9_isSheet, e10_isSheet, e9_finding, e10_finding, e4_has, e5_has, e1_has, e2_has, e3_has, e10_isParishU, e10_isPersonU, e10_isOrderU, le_p, tn0, tn1, tn2, tn3, tn4, tn5, tn6, gUp_n, gUp_s, upd_s, upd_n, nI_add, nI_1, nI_tn, nI_p1, if_true, if_false, bz0, not_true_eq_false, not_false_eq_true, true_and, and_true, ne_eq, and_self, li_7, li_13, li_49, li_59, li_69, li_79, li_89, li_99, li_109, li_119, li_129, li_153, li_177, li_201, li_225, li_249, li_273, li_297, li_321, li_333, li_345, li_357, li_369, li_389, li_409, li_429, li_449, li_469, li_489, li_5, lm_6, lm_20, lm_60, lm_4, z, z0]) (by simp (disch := omega) [M_X10_back, ↓gBd_s, ↓gNm_e, ↓b9_within, ↓b10_within, ↓b9_isDay, ↓b10_isDay, ↓b9_isWeek, ↓b10_isWeek, ↓b9_isSheet, ↓b10_isSheet, ↓b9_finding, ↓b10_finding, ↓b4_has, ↓b5_has, ↓b1_has, ↓b2_has, ↓b3_has, ↓b10_isParishU, ↓b10_isPersonU, ↓b10_isOrderU, ↓gIx_c0, ↓gIx_c1, ↓gIx_c2, ↓gIx_c3, ↓gIx_c4, ↓gIx_c5, ↓gIx_c6, ↓gIx_n, ↓gx_7, ↓gx_13, ↓gx_49, ↓gx_59, ↓gx_69, ↓gx_79, ↓gx_89, ↓gx_99, ↓gx_109, ↓gx_119, ↓gx_129, ↓gx_153, ↓gx_177, ↓gx_201, ↓gx_225, ↓gx_249, ↓gx_273, ↓gx_297, ↓gx_321, ↓gx_333, ↓gx_345, ↓gx_357, ↓gx_369, ↓gx_389, ↓gx_409, ↓gx_429, ↓gx_449, ↓gx_469, ↓gx_489, ↓gx_5, ↓ite_bz, e9_within, e10_within, e9_isDay, e10_isDay, e9_isWeek, e10_isWeek, e9_isSheet, e10_isSheet, e9_finding, e10_finding, e4_has, e5_has, e1_has, e2_has, e3_has, e10_isParishU, e10_isPersonU, e10_isOrderU, le_p, tn0, tn1, tn2, tn3, tn4, tn5, tn6, gUp_n, gUp_s, upd_s, upd_n, nI_add, nI_1, nI_tn, nI_p1, if_true, if_false, bz0, not_true_eq_false, not_false_eq_true, true_and, and_true, ne_eq, and_self, li_7, li_13, li_49, li_59, li_69, li_79, li_89, li_99, li_109, li_119, li_129, li_153, li_177, li_201, li_225, li_249, li_273, li_297, li_321, li_333, li_345, li_357, li_369, li_389, li_409, li_429, li_449, li_469, li_489, li_5, lm_6, lm_20, lm_60, lm_4, z, z0])
  · have z0 : σ 0 4 = 1 := h3.trans z
    have hkp := hkp z
    obtain ⟨σ', q, f, g1, s2, s11, s17, s26, s31, s38, r3, r5, r6, r7, r8, r9, r10, r12, r13, r14, r15, r16, r18, r19, r20, r21, r22, r23, r24, r25, r27, r28, r29, r30, r32, r33, r34, r35, r36, r37, r39, r40, r41, r42⟩ := e0_become_b σ
    have e102 : σ' 102 = σ 102 := f 102 (by omega)
    have e103 : σ' 103 = σ 103 := f 103 (by omega)
    have hb2 : Bk σ' (fa_fill (σ 103) (σ 102) 549) := hkp.cong (fun i hi => fa_fill_in hi) (cols_b g1 s2 s11 s17 s26 s31 s38 r3 r5 r6 r7 r8 r9 r10 r12 r13 r14 r15 r16 r18 r19 r20 r21 r22 r23 r24 r25 r27 r28 r29 r30 r32 r33 r34 r35 r36 r37 r39 r40 r41 r42) r16 r21 r28
    obtain ⟨hC, -, np, nq, nf, nl, no, hR⟩ := id hb2
    have n1 : fa_fill (σ 103) (σ 102) 549 1 = nI nq := hR.1.1.2.1
    have e11 : σ' 11 0 = nI nq := (hC.get0 11 1 1 (by decide) (j := 0) (by decide)).trans n1
    have L := l_back (σ := σ') (K := fun _ σ9 => gIx 549 1 (some (σ9 102 (1 : Int32).toNatClampNeg, σ9))) 549 0 gFu (by omega) (fu _ (by omega))
    rw [fill0, gRow_id rfl, nI_0] at L
    refine ⟨nI nq, σ', gRow σ' 102 (fa_fill (σ 103) (σ 102) 549), ?_, ?_, ?_⟩
    · unfold M_X9_back
      rw [if_neg (by rw [z0]; decide), q, gBd_s, e11]
    · unfold M_X10_back
      rw [if_neg (by rw [f 101 (by omega), z]; decide), L, gIx_c1, tn1, e102, e103, gRow_s, n1]
    · refine ⟨?_, ?_, ?_, ?_, ?_⟩
      · rw [gRow_s]
        exact hb2.same (fun k a b => gRow_n (by omega))
      · intro _
        rw [gRow_n (by omega), e103]
        exact hkp.same (fun k a b => by rw [gRow_n (by omega), f _ (by omega)])
      · rw [gRow_n (by omega), gRow_n (by omega), f 0 (by omega), f 101 (by omega)]
        exact ⟨h3, Or.inr z⟩
      · rw [gRow_n (by omega), gRow_n (by omega), f 0 (by omega), f 101 (by omega)]
        exact h4
      · intro j hj
        rw [gRow_n (by omega), gRow_n (by omega), gRow_n (by omega), gRow_n (by omega), gRow_n (by omega), f 104 (by omega), f 105 (by omega), f 106 (by omega), f (93 + j) (by omega), f (97 + j) (by omega)]
        exact h5 j hj
