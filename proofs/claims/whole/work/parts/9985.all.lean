/-! ===== every turn of the loop, given what each call must come to ===== -/
theorem inv_up {k : Nat} {h : am_H} (hi : invW k h) : invW (k + 1) h := by
  obtain ⟨V, I, L, R, tl, n, p, e, hr, hm⟩ := hi
  exact ⟨V, I, L, R, tl, n, p, e, hr, room_up hm⟩
set_option maxRecDepth 100000 in
theorem inv_fits {k : Nat} {h : am_H} (hk : k ≤ 64) (hi : invW k h) : h.length ≤ 600128 ∧ am_sz h ≤ 7301098 := by
  obtain ⟨V, I, L, R, tl, n, p, rfl, hr, hm⟩ := hi
  have h1 := hm.1
  have h2 := hm.2
  have hn := hr.1.1
  have hp := hr.2.2.2.2.2.2.2.2.2.2.2.1.1
  refine ⟨?_, ?_⟩
  · rw [List.length_append, fx_len]
    omega
  · have e : (fx V I L R).map am_sz1 = szl := rfl
    have e2 : szl.sum = 104763 := by decide +kernel
    show ((fx V I L R ++ tl).map am_sz1).sum ≤ _
    rw [List.map_append, List.sum_append, e, e2]
    show 104763 + am_sz tl ≤ _
    omega
set_option maxRecDepth 100000 in
set_option maxHeartbeats 4000000 in
theorem turn_0 {N : Nat} (H : ok_0 N) {L : Nat} {xs a : Nat → Int32} {K k : Nat} {x4 : Int32} {h : am_H} (hi : invW k h) (h7 : ¬ (Int32.ofNat (am_X0 L xs 0).1) - 7 < x4) (e0 : am_pX (am_X0 L xs) 0 x4 = some (a 0)) (e : ∀ j, j < 7 → am_pX (am_X0 L xs) 0 (x4 + nI j) = some (a j)) (hk : a 0 &&& 63 = 0) : ∃ h', lw_turn (am_X0 L xs) N K x4 h h' ∧ invW (k + 1) h' := by
  obtain ⟨V, I, M, R, tl, n, p, rfl, hr, hm⟩ := hi
  obtain ⟨h', q, r⟩ := H V I M R tl n p k hr hm L xs (a 1) (a 2)
  exact ⟨h', lk_0 (a0 := a 0) (a1 := a 1) (a2 := a 2) h7 e0 hk (e 1 (by omega)) (e 2 (by omega)) rfl q, r⟩
set_option maxRecDepth 100000 in
set_option maxHeartbeats 4000000 in
theorem turn_1 {N : Nat} (H : ok_1 N) {L : Nat} {xs a : Nat → Int32} {K k : Nat} {x4 : Int32} {h : am_H} (hi : invW k h) (h7 : ¬ (Int32.ofNat (am_X0 L xs 0).1) - 7 < x4) (e0 : am_pX (am_X0 L xs) 0 x4 = some (a 0)) (e : ∀ j, j < 7 → am_pX (am_X0 L xs) 0 (x4 + nI j) = some (a j)) (hk : a 0 &&& 63 = 1) : ∃ h', lw_turn (am_X0 L xs) N K x4 h h' ∧ invW (k + 1) h' := by
  obtain ⟨V, I, M, R, tl, n, p, rfl, hr, hm⟩ := hi
  obtain ⟨h', q, r⟩ := H V I M R tl n p k hr hm L xs (a 1)
  exact ⟨h', lk_1 (a0 := a 0) (a1 := a 1) h7 e0 hk (e 1 (by omega)) q, r⟩
set_option maxRecDepth 100000 in
set_option maxHeartbeats 4000000 in
theorem turn_2 {N : Nat} (H : ok_2 N) {L : Nat} {xs a : Nat → Int32} {K k : Nat} {x4 : Int32} {h : am_H} (hi : invW k h) (h7 : ¬ (Int32.ofNat (am_X0 L xs 0).1) - 7 < x4) (e0 : am_pX (am_X0 L xs) 0 x4 = some (a 0)) (e : ∀ j, j < 7 → am_pX (am_X0 L xs) 0 (x4 + nI j) = some (a j)) (hk : a 0 &&& 63 = 2) : ∃ h', lw_turn (am_X0 L xs) N K x4 h h' ∧ invW (k + 1) h' := by
  obtain ⟨V, I, M, R, tl, n, p, rfl, hr, hm⟩ := hi
  obtain ⟨h', q, r⟩ := H V I M R tl n p k hr hm L xs (a 1)
  exact ⟨h', lk_2 (a0 := a 0) (a1 := a 1) h7 e0 hk (e 1 (by omega)) q, r⟩
set_option maxRecDepth 100000 in
set_option maxHeartbeats 4000000 in
theorem turn_3 {N : Nat} (H : ok_3 N) {L : Nat} {xs a : Nat → Int32} {K k : Nat} {x4 : Int32} {h : am_H} (hi : invW k h) (h7 : ¬ (Int32.ofNat (am_X0 L xs 0).1) - 7 < x4) (e0 : am_pX (am_X0 L xs) 0 x4 = some (a 0)) (e : ∀ j, j < 7 → am_pX (am_X0 L xs) 0 (x4 + nI j) = some (a j)) (hk : a 0 &&& 63 = 3) : ∃ h', lw_turn (am_X0 L xs) N K x4 h h' ∧ invW (k + 1) h' := by
  obtain ⟨V, I, M, R, tl, n, p, rfl, hr, hm⟩ := hi
  obtain ⟨h', q, r⟩ := H V I M R tl n p k hr hm L xs (a 1) (a 2)
  exact ⟨h', lk_3 (a0 := a 0) (a1 := a 1) (a2 := a 2) h7 e0 hk (e 1 (by omega)) (e 2 (by omega)) q, r⟩
set_option maxRecDepth 100000 in
set_option maxHeartbeats 4000000 in
theorem turn_4 {N : Nat} (H : ok_4 N) {L : Nat} {xs a : Nat → Int32} {K k : Nat} {x4 : Int32} {h : am_H} (hi : invW k h) (h7 : ¬ (Int32.ofNat (am_X0 L xs 0).1) - 7 < x4) (e0 : am_pX (am_X0 L xs) 0 x4 = some (a 0)) (e : ∀ j, j < 7 → am_pX (am_X0 L xs) 0 (x4 + nI j) = some (a j)) (hk : a 0 &&& 63 = 4) : ∃ h', lw_turn (am_X0 L xs) N K x4 h h' ∧ invW (k + 1) h' := by
  obtain ⟨V, I, M, R, tl, n, p, rfl, hr, hm⟩ := hi
  obtain ⟨h', q, r⟩ := H V I M R tl n p k hr hm L xs
  exact ⟨h', lk_4 (a0 := a 0) h7 e0 hk rfl q, r⟩
set_option maxRecDepth 100000 in
set_option maxHeartbeats 4000000 in
theorem turn_5 {N : Nat} (H : ok_5 N) {L : Nat} {xs a : Nat → Int32} {K k : Nat} {x4 : Int32} {h : am_H} (hi : invW k h) (h7 : ¬ (Int32.ofNat (am_X0 L xs 0).1) - 7 < x4) (e0 : am_pX (am_X0 L xs) 0 x4 = some (a 0)) (e : ∀ j, j < 7 → am_pX (am_X0 L xs) 0 (x4 + nI j) = some (a j)) (hk : a 0 &&& 63 = 5) : ∃ h', lw_turn (am_X0 L xs) N K x4 h h' ∧ invW (k + 1) h' := by
  obtain ⟨V, I, M, R, tl, n, p, rfl, hr, hm⟩ := hi
  obtain ⟨h', q, r⟩ := H V I M R tl n p k hr hm L xs (a 1) (a 2)
  exact ⟨h', lk_5 (a0 := a 0) (a1 := a 1) (a2 := a 2) h7 e0 hk (e 1 (by omega)) (e 2 (by omega)) q, r⟩
set_option maxRecDepth 100000 in
set_option maxHeartbeats 4000000 in
theorem turn_6 {N : Nat} (H : ok_6 N) {L : Nat} {xs a : Nat → Int32} {K k : Nat} {x4 : Int32} {h : am_H} (hi : invW k h) (h7 : ¬ (Int32.ofNat (am_X0 L xs 0).1) - 7 < x4) (e0 : am_pX (am_X0 L xs) 0 x4 = some (a 0)) (e : ∀ j, j < 7 → am_pX (am_X0 L xs) 0 (x4 + nI j) = some (a j)) (hk : a 0 &&& 63 = 6) : ∃ h', lw_turn (am_X0 L xs) N K x4 h h' ∧ invW (k + 1) h' := by
  obtain ⟨V, I, M, R, tl, n, p, rfl, hr, hm⟩ := hi
  obtain ⟨h', q, r⟩ := H V I M R tl n p k hr hm L xs (a 1)
  exact ⟨h', lk_6 (a0 := a 0) (a1 := a 1) h7 e0 hk (e 1 (by omega)) q, r⟩
set_option maxRecDepth 100000 in
set_option maxHeartbeats 4000000 in
theorem turn_7 {N : Nat} (H : ok_7 N) {L : Nat} {xs a : Nat → Int32} {K k : Nat} {x4 : Int32} {h : am_H} (hi : invW k h) (h7 : ¬ (Int32.ofNat (am_X0 L xs 0).1) - 7 < x4) (e0 : am_pX (am_X0 L xs) 0 x4 = some (a 0)) (e : ∀ j, j < 7 → am_pX (am_X0 L xs) 0 (x4 + nI j) = some (a j)) (hk : a 0 &&& 63 = 7) : ∃ h', lw_turn (am_X0 L xs) N K x4 h h' ∧ invW (k + 1) h' := by
  obtain ⟨V, I, M, R, tl, n, p, rfl, hr, hm⟩ := hi
  obtain ⟨h', q, r⟩ := H V I M R tl n p k hr hm L xs (a 1) (a 2) (a 3)
  exact ⟨h', lk_7 (a0 := a 0) (a1 := a 1) (a2 := a 2) (a3 := a 3) h7 e0 hk (e 1 (by omega)) (e 2 (by omega)) (e 3 (by omega)) q, r⟩
set_option maxRecDepth 100000 in
set_option maxHeartbeats 4000000 in
theorem turn_8 {N : Nat} (H : ok_8 N) {L : Nat} {xs a : Nat → Int32} {K k : Nat} {x4 : Int32} {h : am_H} (hi : invW k h) (h7 : ¬ (Int32.ofNat (am_X0 L xs 0).1) - 7 < x4) (e0 : am_pX (am_X0 L xs) 0 x4 = some (a 0)) (e : ∀ j, j < 7 → am_pX (am_X0 L xs) 0 (x4 + nI j) = some (a j)) (hk : a 0 &&& 63 = 8) : ∃ h', lw_turn (am_X0 L xs) N K x4 h h' ∧ invW (k + 1) h' := by
  obtain ⟨V, I, M, R, tl, n, p, rfl, hr, hm⟩ := hi
  obtain ⟨h', q, r⟩ := H V I M R tl n p k hr hm L xs (a 1) (a 2)
  exact ⟨h', lk_8 (a0 := a 0) (a1 := a 1) (a2 := a 2) h7 e0 hk (e 1 (by omega)) (e 2 (by omega)) q, r⟩
set_option maxRecDepth 100000 in
set_option maxHeartbeats 4000000 in
theorem turn_9 {N : Nat} (H : ok_9 N) {L : Nat} {xs a : Nat → Int32} {K k : Nat} {x4 : Int32} {h : am_H} (hi : invW k h) (h7 : ¬ (Int32.ofNat (am_X0 L xs 0).1) - 7 < x4) (e0 : am_pX (am_X0 L xs) 0 x4 = some (a 0)) (e : ∀ j, j < 7 → am_pX (am_X0 L xs) 0 (x4 + nI j) = some (a j)) (hk : a 0 &&& 63 = 9) : ∃ h', lw_turn (am_X0 L xs) N K x4 h h' ∧ invW (k + 1) h' := by
  obtain ⟨V, I, M, R, tl, n, p, rfl, hr, hm⟩ := hi
  obtain ⟨h', q, r⟩ := H V I M R tl n p k hr hm L xs (a 1)
  exact ⟨h', lk_9 (a0 := a 0) (a1 := a 1) h7 e0 hk (e 1 (by omega)) q, r⟩
set_option maxRecDepth 100000 in
set_option maxHeartbeats 4000000 in
theorem turn_10 {N : Nat} (H : ok_10 N) {L : Nat} {xs a : Nat → Int32} {K k : Nat} {x4 : Int32} {h : am_H} (hi : invW k h) (h7 : ¬ (Int32.ofNat (am_X0 L xs 0).1) - 7 < x4) (e0 : am_pX (am_X0 L xs) 0 x4 = some (a 0)) (e : ∀ j, j < 7 → am_pX (am_X0 L xs) 0 (x4 + nI j) = some (a j)) (hk : a 0 &&& 63 = 10) : ∃ h', lw_turn (am_X0 L xs) N K x4 h h' ∧ invW (k + 1) h' := by
  obtain ⟨V, I, M, R, tl, n, p, rfl, hr, hm⟩ := hi
  obtain ⟨h', q, r⟩ := H V I M R tl n p k hr hm L xs (a 1) (a 2) (a 3)
  exact ⟨h', lk_10 (a0 := a 0) (a1 := a 1) (a2 := a 2) (a3 := a 3) h7 e0 hk (e 1 (by omega)) (e 2 (by omega)) (e 3 (by omega)) q, r⟩
set_option maxRecDepth 100000 in
set_option maxHeartbeats 4000000 in
theorem turn_11 {N : Nat} (H : ok_11 N) {L : Nat} {xs a : Nat → Int32} {K k : Nat} {x4 : Int32} {h : am_H} (hi : invW k h) (h7 : ¬ (Int32.ofNat (am_X0 L xs 0).1) - 7 < x4) (e0 : am_pX (am_X0 L xs) 0 x4 = some (a 0)) (e : ∀ j, j < 7 → am_pX (am_X0 L xs) 0 (x4 + nI j) = some (a j)) (hk : a 0 &&& 63 = 11) : ∃ h', lw_turn (am_X0 L xs) N K x4 h h' ∧ invW (k + 1) h' := by
  obtain ⟨V, I, M, R, tl, n, p, rfl, hr, hm⟩ := hi
  obtain ⟨h', q, r⟩ := H V I M R tl n p k hr hm L xs (a 1)
  exact ⟨h', lk_11 (a0 := a 0) (a1 := a 1) h7 e0 hk (e 1 (by omega)) q, r⟩
set_option maxRecDepth 100000 in
set_option maxHeartbeats 4000000 in
theorem turn_12 {N : Nat} (H : ok_12 N) {L : Nat} {xs a : Nat → Int32} {K k : Nat} {x4 : Int32} {h : am_H} (hi : invW k h) (h7 : ¬ (Int32.ofNat (am_X0 L xs 0).1) - 7 < x4) (e0 : am_pX (am_X0 L xs) 0 x4 = some (a 0)) (e : ∀ j, j < 7 → am_pX (am_X0 L xs) 0 (x4 + nI j) = some (a j)) (hk : a 0 &&& 63 = 12) : ∃ h', lw_turn (am_X0 L xs) N K x4 h h' ∧ invW (k + 1) h' := by
  obtain ⟨V, I, M, R, tl, n, p, rfl, hr, hm⟩ := hi
  obtain ⟨h', q, r⟩ := H V I M R tl n p k hr hm L xs (a 1)
  exact ⟨h', lk_12 (a0 := a 0) (a1 := a 1) h7 e0 hk (e 1 (by omega)) rfl q, r⟩
set_option maxRecDepth 100000 in
set_option maxHeartbeats 4000000 in
theorem turn_13 {N : Nat} (H : ok_13 N) {L : Nat} {xs a : Nat → Int32} {K k : Nat} {x4 : Int32} {h : am_H} (hi : invW k h) (h7 : ¬ (Int32.ofNat (am_X0 L xs 0).1) - 7 < x4) (e0 : am_pX (am_X0 L xs) 0 x4 = some (a 0)) (e : ∀ j, j < 7 → am_pX (am_X0 L xs) 0 (x4 + nI j) = some (a j)) (hk : a 0 &&& 63 = 13) : ∃ h', lw_turn (am_X0 L xs) N K x4 h h' ∧ invW (k + 1) h' := by
  obtain ⟨V, I, M, R, tl, n, p, rfl, hr, hm⟩ := hi
  obtain ⟨h', q, r⟩ := H V I M R tl n p k hr hm L xs (a 1) (a 2) (a 3) (a 4) (a 5) (a 6)
  exact ⟨h', lk_13 (a0 := a 0) (a1 := a 1) (a2 := a 2) (a3 := a 3) (a4 := a 4) (a5 := a 5) (a6 := a 6) h7 e0 hk (e 1 (by omega)) (e 2 (by omega)) (e 3 (by omega)) (e 4 (by omega)) (e 5 (by omega)) (e 6 (by omega)) q, r⟩
set_option maxRecDepth 100000 in
set_option maxHeartbeats 4000000 in
theorem turn_14 {N : Nat} (H : ok_14 N) {L : Nat} {xs a : Nat → Int32} {K k : Nat} {x4 : Int32} {h : am_H} (hi : invW k h) (h7 : ¬ (Int32.ofNat (am_X0 L xs 0).1) - 7 < x4) (e0 : am_pX (am_X0 L xs) 0 x4 = some (a 0)) (e : ∀ j, j < 7 → am_pX (am_X0 L xs) 0 (x4 + nI j) = some (a j)) (hk : a 0 &&& 63 = 14) : ∃ h', lw_turn (am_X0 L xs) N K x4 h h' ∧ invW (k + 1) h' := by
  obtain ⟨V, I, M, R, tl, n, p, rfl, hr, hm⟩ := hi
  obtain ⟨h', q, r⟩ := H V I M R tl n p k hr hm L xs (a 1)
  exact ⟨h', lk_14 (a0 := a 0) (a1 := a 1) h7 e0 hk (e 1 (by omega)) q, r⟩
set_option maxRecDepth 100000 in
set_option maxHeartbeats 4000000 in
theorem turn_15 {N : Nat} (H : ok_15 N) {L : Nat} {xs a : Nat → Int32} {K k : Nat} {x4 : Int32} {h : am_H} (hi : invW k h) (h7 : ¬ (Int32.ofNat (am_X0 L xs 0).1) - 7 < x4) (e0 : am_pX (am_X0 L xs) 0 x4 = some (a 0)) (e : ∀ j, j < 7 → am_pX (am_X0 L xs) 0 (x4 + nI j) = some (a j)) (hk : a 0 &&& 63 = 15) : ∃ h', lw_turn (am_X0 L xs) N K x4 h h' ∧ invW (k + 1) h' := by
  obtain ⟨V, I, M, R, tl, n, p, rfl, hr, hm⟩ := hi
  obtain ⟨h', q, r⟩ := H V I M R tl n p k hr hm L xs
  exact ⟨h', lk_15 (a0 := a 0) h7 e0 hk rfl q, r⟩
set_option maxRecDepth 100000 in
set_option maxHeartbeats 4000000 in
theorem turn_16 {N : Nat} (H : ok_16 N) {L : Nat} {xs a : Nat → Int32} {K k : Nat} {x4 : Int32} {h : am_H} (hi : invW k h) (h7 : ¬ (Int32.ofNat (am_X0 L xs 0).1) - 7 < x4) (e0 : am_pX (am_X0 L xs) 0 x4 = some (a 0)) (e : ∀ j, j < 7 → am_pX (am_X0 L xs) 0 (x4 + nI j) = some (a j)) (hk : a 0 &&& 63 = 16) : ∃ h', lw_turn (am_X0 L xs) N K x4 h h' ∧ invW (k + 1) h' := by
  obtain ⟨V, I, M, R, tl, n, p, rfl, hr, hm⟩ := hi
  obtain ⟨h', q, r⟩ := H V I M R tl n p k hr hm L xs (a 1) (a 2)
  exact ⟨h', lk_16 (a0 := a 0) (a1 := a 1) (a2 := a 2) h7 e0 hk (e 1 (by omega)) (e 2 (by omega)) q, r⟩
set_option maxRecDepth 100000 in
set_option maxHeartbeats 4000000 in
theorem turn_17 {N : Nat} (H : ok_17 N) {L : Nat} {xs a : Nat → Int32} {K k : Nat} {x4 : Int32} {h : am_H} (hi : invW k h) (h7 : ¬ (Int32.ofNat (am_X0 L xs 0).1) - 7 < x4) (e0 : am_pX (am_X0 L xs) 0 x4 = some (a 0)) (e : ∀ j, j < 7 → am_pX (am_X0 L xs) 0 (x4 + nI j) = some (a j)) (hk : a 0 &&& 63 = 17) : ∃ h', lw_turn (am_X0 L xs) N K x4 h h' ∧ invW (k + 1) h' := by
  obtain ⟨V, I, M, R, tl, n, p, rfl, hr, hm⟩ := hi
  obtain ⟨h', q, r⟩ := H V I M R tl n p k hr hm L xs (a 1) (a 2)
  exact ⟨h', lk_17 (a0 := a 0) (a1 := a 1) (a2 := a 2) h7 e0 hk (e 1 (by omega)) (e 2 (by omega)) q, r⟩
set_option maxRecDepth 100000 in
set_option maxHeartbeats 4000000 in
theorem turn_18 {N : Nat} (H : ok_18 N) {L : Nat} {xs a : Nat → Int32} {K k : Nat} {x4 : Int32} {h : am_H} (hi : invW k h) (h7 : ¬ (Int32.ofNat (am_X0 L xs 0).1) - 7 < x4) (e0 : am_pX (am_X0 L xs) 0 x4 = some (a 0)) (e : ∀ j, j < 7 → am_pX (am_X0 L xs) 0 (x4 + nI j) = some (a j)) (hk : a 0 &&& 63 = 18) : ∃ h', lw_turn (am_X0 L xs) N K x4 h h' ∧ invW (k + 1) h' := by
  obtain ⟨V, I, M, R, tl, n, p, rfl, hr, hm⟩ := hi
  obtain ⟨h', q, r⟩ := H V I M R tl n p k hr hm L xs (a 1) (a 2) (a 3) (a 4)
  exact ⟨h', lk_18 (a0 := a 0) (a1 := a 1) (a2 := a 2) (a3 := a 3) (a4 := a 4) h7 e0 hk (e 1 (by omega)) (e 2 (by omega)) (e 3 (by omega)) (e 4 (by omega)) q, r⟩
set_option maxRecDepth 100000 in
set_option maxHeartbeats 4000000 in
theorem turn_19 {N : Nat} (H : ok_19 N) {L : Nat} {xs a : Nat → Int32} {K k : Nat} {x4 : Int32} {h : am_H} (hi : invW k h) (h7 : ¬ (Int32.ofNat (am_X0 L xs 0).1) - 7 < x4) (e0 : am_pX (am_X0 L xs) 0 x4 = some (a 0)) (e : ∀ j, j < 7 → am_pX (am_X0 L xs) 0 (x4 + nI j) = some (a j)) (hk : a 0 &&& 63 = 19) : ∃ h', lw_turn (am_X0 L xs) N K x4 h h' ∧ invW (k + 1) h' := by
  obtain ⟨V, I, M, R, tl, n, p, rfl, hr, hm⟩ := hi
  obtain ⟨h', q, r⟩ := H V I M R tl n p k hr hm L xs
  exact ⟨h', lk_19 (a0 := a 0) h7 e0 hk rfl q, r⟩
set_option maxRecDepth 100000 in
set_option maxHeartbeats 4000000 in
theorem turn_20 {N : Nat} (H : ok_20 N) {L : Nat} {xs a : Nat → Int32} {K k : Nat} {x4 : Int32} {h : am_H} (hi : invW k h) (h7 : ¬ (Int32.ofNat (am_X0 L xs 0).1) - 7 < x4) (e0 : am_pX (am_X0 L xs) 0 x4 = some (a 0)) (e : ∀ j, j < 7 → am_pX (am_X0 L xs) 0 (x4 + nI j) = some (a j)) (hk : a 0 &&& 63 = 20) : ∃ h', lw_turn (am_X0 L xs) N K x4 h h' ∧ invW (k + 1) h' := by
  obtain ⟨V, I, M, R, tl, n, p, rfl, hr, hm⟩ := hi
  obtain ⟨h', q, r⟩ := H V I M R tl n p k hr hm L xs
  exact ⟨h', lk_20 (a0 := a 0) h7 e0 hk rfl q, r⟩
set_option maxRecDepth 100000 in
set_option maxHeartbeats 4000000 in
theorem turn_21 {N : Nat} (H : ok_21 N) {L : Nat} {xs a : Nat → Int32} {K k : Nat} {x4 : Int32} {h : am_H} (hi : invW k h) (h7 : ¬ (Int32.ofNat (am_X0 L xs 0).1) - 7 < x4) (e0 : am_pX (am_X0 L xs) 0 x4 = some (a 0)) (e : ∀ j, j < 7 → am_pX (am_X0 L xs) 0 (x4 + nI j) = some (a j)) (hk : a 0 &&& 63 = 21) : ∃ h', lw_turn (am_X0 L xs) N K x4 h h' ∧ invW (k + 1) h' := by
  obtain ⟨V, I, M, R, tl, n, p, rfl, hr, hm⟩ := hi
  obtain ⟨h', q, r⟩ := H V I M R tl n p k hr hm L xs (a 1) (a 2)
  exact ⟨h', lk_21 (a0 := a 0) (a1 := a 1) (a2 := a 2) h7 e0 hk (e 1 (by omega)) (e 2 (by omega)) q, r⟩
set_option maxRecDepth 100000 in
set_option maxHeartbeats 4000000 in
theorem turn_22 {N : Nat} (H : ok_22 N) {L : Nat} {xs a : Nat → Int32} {K k : Nat} {x4 : Int32} {h : am_H} (hi : invW k h) (h7 : ¬ (Int32.ofNat (am_X0 L xs 0).1) - 7 < x4) (e0 : am_pX (am_X0 L xs) 0 x4 = some (a 0)) (e : ∀ j, j < 7 → am_pX (am_X0 L xs) 0 (x4 + nI j) = some (a j)) (hk : a 0 &&& 63 = 22) : ∃ h', lw_turn (am_X0 L xs) N K x4 h h' ∧ invW (k + 1) h' := by
  obtain ⟨V, I, M, R, tl, n, p, rfl, hr, hm⟩ := hi
  obtain ⟨h', q, r⟩ := H V I M R tl n p k hr hm L xs (a 1) (a 2) (a 3)
  exact ⟨h', lk_22 (a0 := a 0) (a1 := a 1) (a2 := a 2) (a3 := a 3) h7 e0 hk (e 1 (by omega)) (e 2 (by omega)) (e 3 (by omega)) q, r⟩
set_option maxRecDepth 100000 in
set_option maxHeartbeats 4000000 in
theorem turn_23 {N : Nat} (H : ok_23 N) {L : Nat} {xs a : Nat → Int32} {K k : Nat} {x4 : Int32} {h : am_H} (hi : invW k h) (h7 : ¬ (Int32.ofNat (am_X0 L xs 0).1) - 7 < x4) (e0 : am_pX (am_X0 L xs) 0 x4 = some (a 0)) (e : ∀ j, j < 7 → am_pX (am_X0 L xs) 0 (x4 + nI j) = some (a j)) (hk : a 0 &&& 63 = 23) : ∃ h', lw_turn (am_X0 L xs) N K x4 h h' ∧ invW (k + 1) h' := by
  obtain ⟨V, I, M, R, tl, n, p, rfl, hr, hm⟩ := hi
  obtain ⟨h', q, r⟩ := H V I M R tl n p k hr hm L xs (a 1) (a 2)
  exact ⟨h', lk_23 (a0 := a 0) (a1 := a 1) (a2 := a 2) h7 e0 hk (e 1 (by omega)) (e 2 (by omega)) q, r⟩
set_option maxRecDepth 100000 in
set_option maxHeartbeats 4000000 in
theorem turn_24 {N : Nat} (H : ok_24 N) {L : Nat} {xs a : Nat → Int32} {K k : Nat} {x4 : Int32} {h : am_H} (hi : invW k h) (h7 : ¬ (Int32.ofNat (am_X0 L xs 0).1) - 7 < x4) (e0 : am_pX (am_X0 L xs) 0 x4 = some (a 0)) (e : ∀ j, j < 7 → am_pX (am_X0 L xs) 0 (x4 + nI j) = some (a j)) (hk : a 0 &&& 63 = 24) : ∃ h', lw_turn (am_X0 L xs) N K x4 h h' ∧ invW (k + 1) h' := by
  obtain ⟨V, I, M, R, tl, n, p, rfl, hr, hm⟩ := hi
  obtain ⟨h', q, r⟩ := H V I M R tl n p k hr hm L xs (a 1) (a 2)
  exact ⟨h', lk_24 (a0 := a 0) (a1 := a 1) (a2 := a 2) h7 e0 hk (e 1 (by omega)) (e 2 (by omega)) q, r⟩
set_option maxRecDepth 100000 in
set_option maxHeartbeats 4000000 in
theorem turn_25 {N : Nat} (H : ok_25 N) {L : Nat} {xs a : Nat → Int32} {K k : Nat} {x4 : Int32} {h : am_H} (hi : invW k h) (h7 : ¬ (Int32.ofNat (am_X0 L xs 0).1) - 7 < x4) (e0 : am_pX (am_X0 L xs) 0 x4 = some (a 0)) (e : ∀ j, j < 7 → am_pX (am_X0 L xs) 0 (x4 + nI j) = some (a j)) (hk : a 0 &&& 63 = 25) : ∃ h', lw_turn (am_X0 L xs) N K x4 h h' ∧ invW (k + 1) h' := by
  obtain ⟨V, I, M, R, tl, n, p, rfl, hr, hm⟩ := hi
  obtain ⟨h', q, r⟩ := H V I M R tl n p k hr hm L xs (a 1) (a 2)
  exact ⟨h', lk_25 (a0 := a 0) (a1 := a 1) (a2 := a 2) h7 e0 hk (e 1 (by omega)) (e 2 (by omega)) q, r⟩
set_option maxRecDepth 100000 in
set_option maxHeartbeats 4000000 in
theorem turn_26 {N : Nat} (H : ok_26 N) {L : Nat} {xs a : Nat → Int32} {K k : Nat} {x4 : Int32} {h : am_H} (hi : invW k h) (h7 : ¬ (Int32.ofNat (am_X0 L xs 0).1) - 7 < x4) (e0 : am_pX (am_X0 L xs) 0 x4 = some (a 0)) (e : ∀ j, j < 7 → am_pX (am_X0 L xs) 0 (x4 + nI j) = some (a j)) (hk : a 0 &&& 63 = 26) : ∃ h', lw_turn (am_X0 L xs) N K x4 h h' ∧ invW (k + 1) h' := by
  obtain ⟨V, I, M, R, tl, n, p, rfl, hr, hm⟩ := hi
  obtain ⟨h', q, r⟩ := H V I M R tl n p k hr hm L xs (a 1) (a 2)
  exact ⟨h', lk_26 (a0 := a 0) (a1 := a 1) (a2 := a 2) h7 e0 hk (e 1 (by omega)) (e 2 (by omega)) q, r⟩
set_option maxRecDepth 100000 in
set_option maxHeartbeats 4000000 in
theorem turn_27 {N : Nat} (H : ok_27 N) {L : Nat} {xs a : Nat → Int32} {K k : Nat} {x4 : Int32} {h : am_H} (hi : invW k h) (h7 : ¬ (Int32.ofNat (am_X0 L xs 0).1) - 7 < x4) (e0 : am_pX (am_X0 L xs) 0 x4 = some (a 0)) (e : ∀ j, j < 7 → am_pX (am_X0 L xs) 0 (x4 + nI j) = some (a j)) (hk : a 0 &&& 63 = 27) : ∃ h', lw_turn (am_X0 L xs) N K x4 h h' ∧ invW (k + 1) h' := by
  obtain ⟨V, I, M, R, tl, n, p, rfl, hr, hm⟩ := hi
  obtain ⟨h', q, r⟩ := H V I M R tl n p k hr hm L xs (a 1) (a 2)
  exact ⟨h', lk_27 (a0 := a 0) (a1 := a 1) (a2 := a 2) h7 e0 hk (e 1 (by omega)) (e 2 (by omega)) q, r⟩
set_option maxRecDepth 100000 in
set_option maxHeartbeats 4000000 in
theorem turn_28 {N : Nat} (H : ok_28 N) {L : Nat} {xs a : Nat → Int32} {K k : Nat} {x4 : Int32} {h : am_H} (hi : invW k h) (h7 : ¬ (Int32.ofNat (am_X0 L xs 0).1) - 7 < x4) (e0 : am_pX (am_X0 L xs) 0 x4 = some (a 0)) (e : ∀ j, j < 7 → am_pX (am_X0 L xs) 0 (x4 + nI j) = some (a j)) (hk : a 0 &&& 63 = 28) : ∃ h', lw_turn (am_X0 L xs) N K x4 h h' ∧ invW (k + 1) h' := by
  obtain ⟨V, I, M, R, tl, n, p, rfl, hr, hm⟩ := hi
  obtain ⟨h', q, r⟩ := H V I M R tl n p k hr hm L xs (a 1) (a 2) (a 3)
  exact ⟨h', lk_28 (a0 := a 0) (a1 := a 1) (a2 := a 2) (a3 := a 3) h7 e0 hk (e 1 (by omega)) (e 2 (by omega)) (e 3 (by omega)) q, r⟩
set_option maxRecDepth 100000 in
set_option maxHeartbeats 4000000 in
theorem turn_29 {N : Nat} (H : ok_29 N) {L : Nat} {xs a : Nat → Int32} {K k : Nat} {x4 : Int32} {h : am_H} (hi : invW k h) (h7 : ¬ (Int32.ofNat (am_X0 L xs 0).1) - 7 < x4) (e0 : am_pX (am_X0 L xs) 0 x4 = some (a 0)) (e : ∀ j, j < 7 → am_pX (am_X0 L xs) 0 (x4 + nI j) = some (a j)) (hk : a 0 &&& 63 = 29) : ∃ h', lw_turn (am_X0 L xs) N K x4 h h' ∧ invW (k + 1) h' := by
  obtain ⟨V, I, M, R, tl, n, p, rfl, hr, hm⟩ := hi
  obtain ⟨h', q, r⟩ := H V I M R tl n p k hr hm L xs (a 1) (a 2) (a 3) (a 4)
  exact ⟨h', lk_29 (a0 := a 0) (a1 := a 1) (a2 := a 2) (a3 := a 3) (a4 := a 4) h7 e0 hk (e 1 (by omega)) (e 2 (by omega)) (e 3 (by omega)) (e 4 (by omega)) q, r⟩
set_option maxRecDepth 100000 in
set_option maxHeartbeats 4000000 in
theorem turn_30 {N : Nat} (H : ok_30 N) {L : Nat} {xs a : Nat → Int32} {K k : Nat} {x4 : Int32} {h : am_H} (hi : invW k h) (h7 : ¬ (Int32.ofNat (am_X0 L xs 0).1) - 7 < x4) (e0 : am_pX (am_X0 L xs) 0 x4 = some (a 0)) (e : ∀ j, j < 7 → am_pX (am_X0 L xs) 0 (x4 + nI j) = some (a j)) (hk : a 0 &&& 63 = 30) : ∃ h', lw_turn (am_X0 L xs) N K x4 h h' ∧ invW (k + 1) h' := by
  obtain ⟨V, I, M, R, tl, n, p, rfl, hr, hm⟩ := hi
  obtain ⟨h', q, r⟩ := H V I M R tl n p k hr hm L xs (a 1) (a 2)
  exact ⟨h', lk_30 (a0 := a 0) (a1 := a 1) (a2 := a 2) h7 e0 hk (e 1 (by omega)) (e 2 (by omega)) q, r⟩
set_option maxRecDepth 100000 in
set_option maxHeartbeats 4000000 in
theorem turn_31 {N : Nat} (H : ok_31 N) {L : Nat} {xs a : Nat → Int32} {K k : Nat} {x4 : Int32} {h : am_H} (hi : invW k h) (h7 : ¬ (Int32.ofNat (am_X0 L xs 0).1) - 7 < x4) (e0 : am_pX (am_X0 L xs) 0 x4 = some (a 0)) (e : ∀ j, j < 7 → am_pX (am_X0 L xs) 0 (x4 + nI j) = some (a j)) (hk : a 0 &&& 63 = 31) : ∃ h', lw_turn (am_X0 L xs) N K x4 h h' ∧ invW (k + 1) h' := by
  obtain ⟨V, I, M, R, tl, n, p, rfl, hr, hm⟩ := hi
  obtain ⟨h', q, r⟩ := H V I M R tl n p k hr hm L xs (a 1) (a 2) (a 3) (a 4)
  exact ⟨h', lk_31 (a0 := a 0) (a1 := a 1) (a2 := a 2) (a3 := a 3) (a4 := a 4) h7 e0 hk (e 1 (by omega)) (e 2 (by omega)) (e 3 (by omega)) (e 4 (by omega)) q, r⟩
set_option maxRecDepth 100000 in
set_option maxHeartbeats 4000000 in
theorem turn_32 {N : Nat} (H : ok_32 N) {L : Nat} {xs a : Nat → Int32} {K k : Nat} {x4 : Int32} {h : am_H} (hi : invW k h) (h7 : ¬ (Int32.ofNat (am_X0 L xs 0).1) - 7 < x4) (e0 : am_pX (am_X0 L xs) 0 x4 = some (a 0)) (e : ∀ j, j < 7 → am_pX (am_X0 L xs) 0 (x4 + nI j) = some (a j)) (hk : a 0 &&& 63 = 32) : ∃ h', lw_turn (am_X0 L xs) N K x4 h h' ∧ invW (k + 1) h' := by
  obtain ⟨V, I, M, R, tl, n, p, rfl, hr, hm⟩ := hi
  obtain ⟨h', q, r⟩ := H V I M R tl n p k hr hm L xs (a 1) (a 2) (a 3) (a 4) (a 5) (a 6)
  exact ⟨h', lk_32 (a0 := a 0) (a1 := a 1) (a2 := a 2) (a3 := a 3) (a4 := a 4) (a5 := a 5) (a6 := a 6) h7 e0 hk (e 1 (by omega)) (e 2 (by omega)) (e 3 (by omega)) (e 4 (by omega)) (e 5 (by omega)) (e 6 (by omega)) q, r⟩
set_option maxRecDepth 100000 in
set_option maxHeartbeats 4000000 in
theorem turn_33 {N : Nat} (H : ok_33 N) {L : Nat} {xs a : Nat → Int32} {K k : Nat} {x4 : Int32} {h : am_H} (hi : invW k h) (h7 : ¬ (Int32.ofNat (am_X0 L xs 0).1) - 7 < x4) (e0 : am_pX (am_X0 L xs) 0 x4 = some (a 0)) (e : ∀ j, j < 7 → am_pX (am_X0 L xs) 0 (x4 + nI j) = some (a j)) (hk : a 0 &&& 63 = 33) : ∃ h', lw_turn (am_X0 L xs) N K x4 h h' ∧ invW (k + 1) h' := by
  obtain ⟨V, I, M, R, tl, n, p, rfl, hr, hm⟩ := hi
  obtain ⟨h', q, r⟩ := H V I M R tl n p k hr hm L xs (a 1)
  exact ⟨h', lk_33 (a0 := a 0) (a1 := a 1) h7 e0 hk (e 1 (by omega)) q, r⟩
set_option maxRecDepth 100000 in
set_option maxHeartbeats 4000000 in
theorem turn_34 {N : Nat} (H : ok_34 N) {L : Nat} {xs a : Nat → Int32} {K k : Nat} {x4 : Int32} {h : am_H} (hi : invW k h) (h7 : ¬ (Int32.ofNat (am_X0 L xs 0).1) - 7 < x4) (e0 : am_pX (am_X0 L xs) 0 x4 = some (a 0)) (e : ∀ j, j < 7 → am_pX (am_X0 L xs) 0 (x4 + nI j) = some (a j)) (hk : a 0 &&& 63 = 34) : ∃ h', lw_turn (am_X0 L xs) N K x4 h h' ∧ invW (k + 1) h' := by
  obtain ⟨V, I, M, R, tl, n, p, rfl, hr, hm⟩ := hi
  obtain ⟨h', q, r⟩ := H V I M R tl n p k hr hm L xs (a 1) (a 2)
  exact ⟨h', lk_34 (a0 := a 0) (a1 := a 1) (a2 := a 2) h7 e0 hk (e 1 (by omega)) (e 2 (by omega)) q, r⟩
set_option maxRecDepth 100000 in
set_option maxHeartbeats 4000000 in
theorem turn_35 {N : Nat} (H : ok_35 N) {L : Nat} {xs a : Nat → Int32} {K k : Nat} {x4 : Int32} {h : am_H} (hi : invW k h) (h7 : ¬ (Int32.ofNat (am_X0 L xs 0).1) - 7 < x4) (e0 : am_pX (am_X0 L xs) 0 x4 = some (a 0)) (e : ∀ j, j < 7 → am_pX (am_X0 L xs) 0 (x4 + nI j) = some (a j)) (hk : a 0 &&& 63 = 35) : ∃ h', lw_turn (am_X0 L xs) N K x4 h h' ∧ invW (k + 1) h' := by
  obtain ⟨V, I, M, R, tl, n, p, rfl, hr, hm⟩ := hi
  obtain ⟨h', q, r⟩ := H V I M R tl n p k hr hm L xs (a 1) (a 2)
  exact ⟨h', lk_35 (a0 := a 0) (a1 := a 1) (a2 := a 2) h7 e0 hk (e 1 (by omega)) (e 2 (by omega)) q, r⟩
set_option maxRecDepth 100000 in
set_option maxHeartbeats 4000000 in
theorem turn_36 {N : Nat} (H : ok_36 N) {L : Nat} {xs a : Nat → Int32} {K k : Nat} {x4 : Int32} {h : am_H} (hi : invW k h) (h7 : ¬ (Int32.ofNat (am_X0 L xs 0).1) - 7 < x4) (e0 : am_pX (am_X0 L xs) 0 x4 = some (a 0)) (e : ∀ j, j < 7 → am_pX (am_X0 L xs) 0 (x4 + nI j) = some (a j)) (hk : a 0 &&& 63 = 36) : ∃ h', lw_turn (am_X0 L xs) N K x4 h h' ∧ invW (k + 1) h' := by
  obtain ⟨V, I, M, R, tl, n, p, rfl, hr, hm⟩ := hi
  obtain ⟨h', q, r⟩ := H V I M R tl n p k hr hm L xs (a 1) (a 2)
  exact ⟨h', lk_36 (a0 := a 0) (a1 := a 1) (a2 := a 2) h7 e0 hk (e 1 (by omega)) (e 2 (by omega)) q, r⟩
set_option maxRecDepth 100000 in
set_option maxHeartbeats 4000000 in
theorem turn_37 {N : Nat} (H : ok_37 N) {L : Nat} {xs a : Nat → Int32} {K k : Nat} {x4 : Int32} {h : am_H} (hi : invW k h) (h7 : ¬ (Int32.ofNat (am_X0 L xs 0).1) - 7 < x4) (e0 : am_pX (am_X0 L xs) 0 x4 = some (a 0)) (e : ∀ j, j < 7 → am_pX (am_X0 L xs) 0 (x4 + nI j) = some (a j)) (hk : a 0 &&& 63 = 37) : ∃ h', lw_turn (am_X0 L xs) N K x4 h h' ∧ invW (k + 1) h' := by
  obtain ⟨V, I, M, R, tl, n, p, rfl, hr, hm⟩ := hi
  obtain ⟨h', q, r⟩ := H V I M R tl n p k hr hm L xs (a 1)
  exact ⟨h', lk_37 (a0 := a 0) (a1 := a 1) h7 e0 hk (e 1 (by omega)) q, r⟩
set_option maxRecDepth 100000 in
set_option maxHeartbeats 4000000 in
theorem turn_38 {N : Nat} (H : ok_38 N) {L : Nat} {xs a : Nat → Int32} {K k : Nat} {x4 : Int32} {h : am_H} (hi : invW k h) (h7 : ¬ (Int32.ofNat (am_X0 L xs 0).1) - 7 < x4) (e0 : am_pX (am_X0 L xs) 0 x4 = some (a 0)) (e : ∀ j, j < 7 → am_pX (am_X0 L xs) 0 (x4 + nI j) = some (a j)) (hk : a 0 &&& 63 = 38) : ∃ h', lw_turn (am_X0 L xs) N K x4 h h' ∧ invW (k + 1) h' := by
  obtain ⟨V, I, M, R, tl, n, p, rfl, hr, hm⟩ := hi
  obtain ⟨h', q, r⟩ := H V I M R tl n p k hr hm L xs (a 1) (a 2)
  exact ⟨h', lk_38 (a0 := a 0) (a1 := a 1) (a2 := a 2) h7 e0 hk (e 1 (by omega)) (e 2 (by omega)) q, r⟩
set_option maxRecDepth 100000 in
set_option maxHeartbeats 4000000 in
theorem turn_39 {N : Nat} (H : ok_39 N) {L : Nat} {xs a : Nat → Int32} {K k : Nat} {x4 : Int32} {h : am_H} (hi : invW k h) (h7 : ¬ (Int32.ofNat (am_X0 L xs 0).1) - 7 < x4) (e0 : am_pX (am_X0 L xs) 0 x4 = some (a 0)) (e : ∀ j, j < 7 → am_pX (am_X0 L xs) 0 (x4 + nI j) = some (a j)) (hk : a 0 &&& 63 = 39) : ∃ h', lw_turn (am_X0 L xs) N K x4 h h' ∧ invW (k + 1) h' := by
  obtain ⟨V, I, M, R, tl, n, p, rfl, hr, hm⟩ := hi
  obtain ⟨h', q, r⟩ := H V I M R tl n p k hr hm L xs (a 1) (a 2) (a 3)
  exact ⟨h', lk_39 (a0 := a 0) (a1 := a 1) (a2 := a 2) (a3 := a 3) h7 e0 hk (e 1 (by omega)) (e 2 (by omega)) (e 3 (by omega)) q, r⟩
set_option maxRecDepth 100000 in
set_option maxHeartbeats 4000000 in
theorem turn_40 {N : Nat} (H : ok_40 N) {L : Nat} {xs a : Nat → Int32} {K k : Nat} {x4 : Int32} {h : am_H} (hi : invW k h) (h7 : ¬ (Int32.ofNat (am_X0 L xs 0).1) - 7 < x4) (e0 : am_pX (am_X0 L xs) 0 x4 = some (a 0)) (e : ∀ j, j < 7 → am_pX (am_X0 L xs) 0 (x4 + nI j) = some (a j)) (hk : a 0 &&& 63 = 40) : ∃ h', lw_turn (am_X0 L xs) N K x4 h h' ∧ invW (k + 1) h' := by
  obtain ⟨V, I, M, R, tl, n, p, rfl, hr, hm⟩ := hi
  obtain ⟨h', q, r⟩ := H V I M R tl n p k hr hm L xs (a 1) (a 2)
  exact ⟨h', lk_40 (a0 := a 0) (a1 := a 1) (a2 := a 2) h7 e0 hk (e 1 (by omega)) (e 2 (by omega)) q, r⟩
set_option maxRecDepth 100000 in
set_option maxHeartbeats 4000000 in
theorem turn_41 {N : Nat} (H : ok_41 N) {L : Nat} {xs a : Nat → Int32} {K k : Nat} {x4 : Int32} {h : am_H} (hi : invW k h) (h7 : ¬ (Int32.ofNat (am_X0 L xs 0).1) - 7 < x4) (e0 : am_pX (am_X0 L xs) 0 x4 = some (a 0)) (e : ∀ j, j < 7 → am_pX (am_X0 L xs) 0 (x4 + nI j) = some (a j)) (hk : a 0 &&& 63 = 41) : ∃ h', lw_turn (am_X0 L xs) N K x4 h h' ∧ invW (k + 1) h' := by
  obtain ⟨V, I, M, R, tl, n, p, rfl, hr, hm⟩ := hi
  obtain ⟨h', q, r⟩ := H V I M R tl n p k hr hm L xs (a 1) (a 2)
  exact ⟨h', lk_41 (a0 := a 0) (a1 := a 1) (a2 := a 2) h7 e0 hk (e 1 (by omega)) (e 2 (by omega)) q, r⟩
set_option maxRecDepth 100000 in
set_option maxHeartbeats 4000000 in
theorem turn_42 {N : Nat} (H : ok_42 N) {L : Nat} {xs a : Nat → Int32} {K k : Nat} {x4 : Int32} {h : am_H} (hi : invW k h) (h7 : ¬ (Int32.ofNat (am_X0 L xs 0).1) - 7 < x4) (e0 : am_pX (am_X0 L xs) 0 x4 = some (a 0)) (e : ∀ j, j < 7 → am_pX (am_X0 L xs) 0 (x4 + nI j) = some (a j)) (hk : a 0 &&& 63 = 42) : ∃ h', lw_turn (am_X0 L xs) N K x4 h h' ∧ invW (k + 1) h' := by
  obtain ⟨V, I, M, R, tl, n, p, rfl, hr, hm⟩ := hi
  obtain ⟨h', q, r⟩ := H V I M R tl n p k hr hm L xs (a 1)
  exact ⟨h', lk_42 (a0 := a 0) (a1 := a 1) h7 e0 hk (e 1 (by omega)) q, r⟩
set_option maxRecDepth 100000 in
set_option maxHeartbeats 4000000 in
theorem turn_43 {N : Nat} (H : ok_43 N) {L : Nat} {xs a : Nat → Int32} {K k : Nat} {x4 : Int32} {h : am_H} (hi : invW k h) (h7 : ¬ (Int32.ofNat (am_X0 L xs 0).1) - 7 < x4) (e0 : am_pX (am_X0 L xs) 0 x4 = some (a 0)) (e : ∀ j, j < 7 → am_pX (am_X0 L xs) 0 (x4 + nI j) = some (a j)) (hk : a 0 &&& 63 = 43) : ∃ h', lw_turn (am_X0 L xs) N K x4 h h' ∧ invW (k + 1) h' := by
  obtain ⟨V, I, M, R, tl, n, p, rfl, hr, hm⟩ := hi
  obtain ⟨h', q, r⟩ := H V I M R tl n p k hr hm L xs (a 1) (a 2)
  exact ⟨h', lk_43 (a0 := a 0) (a1 := a 1) (a2 := a 2) h7 e0 hk (e 1 (by omega)) (e 2 (by omega)) q, r⟩
set_option maxRecDepth 100000 in
set_option maxHeartbeats 4000000 in
theorem turn_44 {N : Nat} (H : ok_44 N) {L : Nat} {xs a : Nat → Int32} {K k : Nat} {x4 : Int32} {h : am_H} (hi : invW k h) (h7 : ¬ (Int32.ofNat (am_X0 L xs 0).1) - 7 < x4) (e0 : am_pX (am_X0 L xs) 0 x4 = some (a 0)) (e : ∀ j, j < 7 → am_pX (am_X0 L xs) 0 (x4 + nI j) = some (a j)) (hk : a 0 &&& 63 = 44) : ∃ h', lw_turn (am_X0 L xs) N K x4 h h' ∧ invW (k + 1) h' := by
  obtain ⟨V, I, M, R, tl, n, p, rfl, hr, hm⟩ := hi
  obtain ⟨h', q, r⟩ := H V I M R tl n p k hr hm L xs (a 1) (a 2)
  exact ⟨h', lk_44 (a0 := a 0) (a1 := a 1) (a2 := a 2) h7 e0 hk (e 1 (by omega)) (e 2 (by omega)) q, r⟩
set_option maxRecDepth 100000 in
set_option maxHeartbeats 4000000 in
theorem turn_45 {N : Nat} (H : ok_45 N) {L : Nat} {xs a : Nat → Int32} {K k : Nat} {x4 : Int32} {h : am_H} (hi : invW k h) (h7 : ¬ (Int32.ofNat (am_X0 L xs 0).1) - 7 < x4) (e0 : am_pX (am_X0 L xs) 0 x4 = some (a 0)) (e : ∀ j, j < 7 → am_pX (am_X0 L xs) 0 (x4 + nI j) = some (a j)) (hk : a 0 &&& 63 = 45) : ∃ h', lw_turn (am_X0 L xs) N K x4 h h' ∧ invW (k + 1) h' := by
  obtain ⟨V, I, M, R, tl, n, p, rfl, hr, hm⟩ := hi
  obtain ⟨h', q, r⟩ := H V I M R tl n p k hr hm L xs (a 1)
  exact ⟨h', lk_45 (a0 := a 0) (a1 := a 1) h7 e0 hk (e 1 (by omega)) q, r⟩
set_option maxRecDepth 100000 in
set_option maxHeartbeats 4000000 in
theorem turn_46 {N : Nat} (H : ok_46 N) {L : Nat} {xs a : Nat → Int32} {K k : Nat} {x4 : Int32} {h : am_H} (hi : invW k h) (h7 : ¬ (Int32.ofNat (am_X0 L xs 0).1) - 7 < x4) (e0 : am_pX (am_X0 L xs) 0 x4 = some (a 0)) (e : ∀ j, j < 7 → am_pX (am_X0 L xs) 0 (x4 + nI j) = some (a j)) (hk : a 0 &&& 63 = 46) : ∃ h', lw_turn (am_X0 L xs) N K x4 h h' ∧ invW (k + 1) h' := by
  obtain ⟨V, I, M, R, tl, n, p, rfl, hr, hm⟩ := hi
  obtain ⟨h', q, r⟩ := H V I M R tl n p k hr hm L xs (a 1)
  exact ⟨h', lk_46 (a0 := a 0) (a1 := a 1) h7 e0 hk (e 1 (by omega)) q, r⟩
set_option maxRecDepth 100000 in
set_option maxHeartbeats 4000000 in
theorem turn_47 {N : Nat} (H : ok_47 N) {L : Nat} {xs a : Nat → Int32} {K k : Nat} {x4 : Int32} {h : am_H} (hi : invW k h) (h7 : ¬ (Int32.ofNat (am_X0 L xs 0).1) - 7 < x4) (e0 : am_pX (am_X0 L xs) 0 x4 = some (a 0)) (e : ∀ j, j < 7 → am_pX (am_X0 L xs) 0 (x4 + nI j) = some (a j)) (hk : a 0 &&& 63 = 47) : ∃ h', lw_turn (am_X0 L xs) N K x4 h h' ∧ invW (k + 1) h' := by
  obtain ⟨V, I, M, R, tl, n, p, rfl, hr, hm⟩ := hi
  obtain ⟨h', q, r⟩ := H V I M R tl n p k hr hm L xs (a 1)
  exact ⟨h', lk_47 (a0 := a 0) (a1 := a 1) h7 e0 hk (e 1 (by omega)) q, r⟩
set_option maxRecDepth 100000 in
set_option maxHeartbeats 4000000 in
theorem turn_48 {N : Nat} (H : ok_48 N) {L : Nat} {xs a : Nat → Int32} {K k : Nat} {x4 : Int32} {h : am_H} (hi : invW k h) (h7 : ¬ (Int32.ofNat (am_X0 L xs 0).1) - 7 < x4) (e0 : am_pX (am_X0 L xs) 0 x4 = some (a 0)) (e : ∀ j, j < 7 → am_pX (am_X0 L xs) 0 (x4 + nI j) = some (a j)) (hk : a 0 &&& 63 = 48) : ∃ h', lw_turn (am_X0 L xs) N K x4 h h' ∧ invW (k + 1) h' := by
  obtain ⟨V, I, M, R, tl, n, p, rfl, hr, hm⟩ := hi
  obtain ⟨h', q, r⟩ := H V I M R tl n p k hr hm L xs
  exact ⟨h', lk_48 (a0 := a 0) h7 e0 hk rfl q, r⟩
set_option maxRecDepth 100000 in
set_option maxHeartbeats 4000000 in
theorem turn_49 {N : Nat} (H : ok_49 N) {L : Nat} {xs a : Nat → Int32} {K k : Nat} {x4 : Int32} {h : am_H} (hi : invW k h) (h7 : ¬ (Int32.ofNat (am_X0 L xs 0).1) - 7 < x4) (e0 : am_pX (am_X0 L xs) 0 x4 = some (a 0)) (e : ∀ j, j < 7 → am_pX (am_X0 L xs) 0 (x4 + nI j) = some (a j)) (hk : a 0 &&& 63 = 49) : ∃ h', lw_turn (am_X0 L xs) N K x4 h h' ∧ invW (k + 1) h' := by
  obtain ⟨V, I, M, R, tl, n, p, rfl, hr, hm⟩ := hi
  obtain ⟨h', q, r⟩ := H V I M R tl n p k hr hm L xs (a 1) (a 2)
  exact ⟨h', lk_49 (a0 := a 0) (a1 := a 1) (a2 := a 2) h7 e0 hk (e 1 (by omega)) (e 2 (by omega)) rfl q, r⟩
set_option maxRecDepth 100000 in
set_option maxHeartbeats 4000000 in
theorem turn_50 {N : Nat} (H : ok_50 N) {L : Nat} {xs a : Nat → Int32} {K k : Nat} {x4 : Int32} {h : am_H} (hi : invW k h) (h7 : ¬ (Int32.ofNat (am_X0 L xs 0).1) - 7 < x4) (e0 : am_pX (am_X0 L xs) 0 x4 = some (a 0)) (e : ∀ j, j < 7 → am_pX (am_X0 L xs) 0 (x4 + nI j) = some (a j)) (hk : a 0 &&& 63 = 50) : ∃ h', lw_turn (am_X0 L xs) N K x4 h h' ∧ invW (k + 1) h' := by
  obtain ⟨V, I, M, R, tl, n, p, rfl, hr, hm⟩ := hi
  obtain ⟨h', q, r⟩ := H V I M R tl n p k hr hm L xs (a 1) (a 2)
  exact ⟨h', lk_50 (a0 := a 0) (a1 := a 1) (a2 := a 2) h7 e0 hk (e 1 (by omega)) (e 2 (by omega)) q, r⟩
set_option maxRecDepth 100000 in
set_option maxHeartbeats 4000000 in
theorem turn_51 {N : Nat} (H : ok_51 N) {L : Nat} {xs a : Nat → Int32} {K k : Nat} {x4 : Int32} {h : am_H} (hi : invW k h) (h7 : ¬ (Int32.ofNat (am_X0 L xs 0).1) - 7 < x4) (e0 : am_pX (am_X0 L xs) 0 x4 = some (a 0)) (e : ∀ j, j < 7 → am_pX (am_X0 L xs) 0 (x4 + nI j) = some (a j)) (hk : a 0 &&& 63 = 51) : ∃ h', lw_turn (am_X0 L xs) N K x4 h h' ∧ invW (k + 1) h' := by
  obtain ⟨V, I, M, R, tl, n, p, rfl, hr, hm⟩ := hi
  obtain ⟨h', q, r⟩ := H V I M R tl n p k hr hm L xs (a 1) (a 2)
  exact ⟨h', lk_51 (a0 := a 0) (a1 := a 1) (a2 := a 2) h7 e0 hk (e 1 (by omega)) (e 2 (by omega)) q, r⟩
set_option maxRecDepth 100000 in
set_option maxHeartbeats 4000000 in
theorem turn_52 {N : Nat} (H : ok_52 N) {L : Nat} {xs a : Nat → Int32} {K k : Nat} {x4 : Int32} {h : am_H} (hi : invW k h) (h7 : ¬ (Int32.ofNat (am_X0 L xs 0).1) - 7 < x4) (e0 : am_pX (am_X0 L xs) 0 x4 = some (a 0)) (e : ∀ j, j < 7 → am_pX (am_X0 L xs) 0 (x4 + nI j) = some (a j)) (hk : a 0 &&& 63 = 52) : ∃ h', lw_turn (am_X0 L xs) N K x4 h h' ∧ invW (k + 1) h' := by
  obtain ⟨V, I, M, R, tl, n, p, rfl, hr, hm⟩ := hi
  obtain ⟨h', q, r⟩ := H V I M R tl n p k hr hm L xs (a 1)
  exact ⟨h', lk_52 (a0 := a 0) (a1 := a 1) h7 e0 hk (e 1 (by omega)) q, r⟩
set_option maxRecDepth 100000 in
set_option maxHeartbeats 4000000 in
theorem turn_53 {N : Nat} (H : ok_53 N) {L : Nat} {xs a : Nat → Int32} {K k : Nat} {x4 : Int32} {h : am_H} (hi : invW k h) (h7 : ¬ (Int32.ofNat (am_X0 L xs 0).1) - 7 < x4) (e0 : am_pX (am_X0 L xs) 0 x4 = some (a 0)) (e : ∀ j, j < 7 → am_pX (am_X0 L xs) 0 (x4 + nI j) = some (a j)) (hk : a 0 &&& 63 = 53) : ∃ h', lw_turn (am_X0 L xs) N K x4 h h' ∧ invW (k + 1) h' := by
  obtain ⟨V, I, M, R, tl, n, p, rfl, hr, hm⟩ := hi
  obtain ⟨h', q, r⟩ := H V I M R tl n p k hr hm L xs (a 1)
  exact ⟨h', lk_53 (a0 := a 0) (a1 := a 1) h7 e0 hk (e 1 (by omega)) q, r⟩
set_option maxRecDepth 100000 in
set_option maxHeartbeats 4000000 in
theorem turn_54 {N : Nat} (H : ok_54 N) {L : Nat} {xs a : Nat → Int32} {K k : Nat} {x4 : Int32} {h : am_H} (hi : invW k h) (h7 : ¬ (Int32.ofNat (am_X0 L xs 0).1) - 7 < x4) (e0 : am_pX (am_X0 L xs) 0 x4 = some (a 0)) (e : ∀ j, j < 7 → am_pX (am_X0 L xs) 0 (x4 + nI j) = some (a j)) (hk : a 0 &&& 63 = 54) : ∃ h', lw_turn (am_X0 L xs) N K x4 h h' ∧ invW (k + 1) h' := by
  obtain ⟨V, I, M, R, tl, n, p, rfl, hr, hm⟩ := hi
  obtain ⟨h', q, r⟩ := H V I M R tl n p k hr hm L xs (a 1) (a 2) (a 3)
  exact ⟨h', lk_54 (a0 := a 0) (a1 := a 1) (a2 := a 2) (a3 := a 3) h7 e0 hk (e 1 (by omega)) (e 2 (by omega)) (e 3 (by omega)) q, r⟩
set_option maxRecDepth 100000 in
set_option maxHeartbeats 4000000 in
theorem turn_55 {N : Nat} (H : ok_55 N) {L : Nat} {xs a : Nat → Int32} {K k : Nat} {x4 : Int32} {h : am_H} (hi : invW k h) (h7 : ¬ (Int32.ofNat (am_X0 L xs 0).1) - 7 < x4) (e0 : am_pX (am_X0 L xs) 0 x4 = some (a 0)) (e : ∀ j, j < 7 → am_pX (am_X0 L xs) 0 (x4 + nI j) = some (a j)) (hk : a 0 &&& 63 = 55) : ∃ h', lw_turn (am_X0 L xs) N K x4 h h' ∧ invW (k + 1) h' := by
  obtain ⟨V, I, M, R, tl, n, p, rfl, hr, hm⟩ := hi
  obtain ⟨h', q, r⟩ := H V I M R tl n p k hr hm L xs (a 1) (a 2)
  exact ⟨h', lk_55 (a0 := a 0) (a1 := a 1) (a2 := a 2) h7 e0 hk (e 1 (by omega)) (e 2 (by omega)) q, r⟩
set_option maxRecDepth 100000 in
set_option maxHeartbeats 4000000 in
theorem turn_56 {N : Nat} (H : ok_56 N) {L : Nat} {xs a : Nat → Int32} {K k : Nat} {x4 : Int32} {h : am_H} (hi : invW k h) (h7 : ¬ (Int32.ofNat (am_X0 L xs 0).1) - 7 < x4) (e0 : am_pX (am_X0 L xs) 0 x4 = some (a 0)) (e : ∀ j, j < 7 → am_pX (am_X0 L xs) 0 (x4 + nI j) = some (a j)) (hk : a 0 &&& 63 = 56) : ∃ h', lw_turn (am_X0 L xs) N K x4 h h' ∧ invW (k + 1) h' := by
  obtain ⟨V, I, M, R, tl, n, p, rfl, hr, hm⟩ := hi
  obtain ⟨h', q, r⟩ := H V I M R tl n p k hr hm L xs (a 1)
  exact ⟨h', lk_56 (a0 := a 0) (a1 := a 1) h7 e0 hk (e 1 (by omega)) q, r⟩
set_option maxRecDepth 100000 in
set_option maxHeartbeats 4000000 in
theorem turn_57 {N : Nat} (H : ok_57 N) {L : Nat} {xs a : Nat → Int32} {K k : Nat} {x4 : Int32} {h : am_H} (hi : invW k h) (h7 : ¬ (Int32.ofNat (am_X0 L xs 0).1) - 7 < x4) (e0 : am_pX (am_X0 L xs) 0 x4 = some (a 0)) (e : ∀ j, j < 7 → am_pX (am_X0 L xs) 0 (x4 + nI j) = some (a j)) (hk : a 0 &&& 63 = 57) : ∃ h', lw_turn (am_X0 L xs) N K x4 h h' ∧ invW (k + 1) h' := by
  obtain ⟨V, I, M, R, tl, n, p, rfl, hr, hm⟩ := hi
  obtain ⟨h', q, r⟩ := H V I M R tl n p k hr hm L xs (a 1)
  exact ⟨h', lk_57 (a0 := a 0) (a1 := a 1) h7 e0 hk (e 1 (by omega)) q, r⟩
set_option maxRecDepth 100000 in
set_option maxHeartbeats 4000000 in
theorem turn_58 {N : Nat} (H : ok_58 N) {L : Nat} {xs a : Nat → Int32} {K k : Nat} {x4 : Int32} {h : am_H} (hi : invW k h) (h7 : ¬ (Int32.ofNat (am_X0 L xs 0).1) - 7 < x4) (e0 : am_pX (am_X0 L xs) 0 x4 = some (a 0)) (e : ∀ j, j < 7 → am_pX (am_X0 L xs) 0 (x4 + nI j) = some (a j)) (hk : a 0 &&& 63 = 58) : ∃ h', lw_turn (am_X0 L xs) N K x4 h h' ∧ invW (k + 1) h' := by
  obtain ⟨V, I, M, R, tl, n, p, rfl, hr, hm⟩ := hi
  obtain ⟨h', q, r⟩ := H V I M R tl n p k hr hm L xs (a 1)
  exact ⟨h', lk_58 (a0 := a 0) (a1 := a 1) h7 e0 hk (e 1 (by omega)) q, r⟩
set_option maxRecDepth 100000 in
set_option maxHeartbeats 4000000 in
theorem turn_59 {N : Nat} (H : ok_59 N) {L : Nat} {xs a : Nat → Int32} {K k : Nat} {x4 : Int32} {h : am_H} (hi : invW k h) (h7 : ¬ (Int32.ofNat (am_X0 L xs 0).1) - 7 < x4) (e0 : am_pX (am_X0 L xs) 0 x4 = some (a 0)) (e : ∀ j, j < 7 → am_pX (am_X0 L xs) 0 (x4 + nI j) = some (a j)) (hk : a 0 &&& 63 = 59) : ∃ h', lw_turn (am_X0 L xs) N K x4 h h' ∧ invW (k + 1) h' := by
  obtain ⟨V, I, M, R, tl, n, p, rfl, hr, hm⟩ := hi
  obtain ⟨h', q, r⟩ := H V I M R tl n p k hr hm L xs (a 1)
  exact ⟨h', lk_59 (a0 := a 0) (a1 := a 1) h7 e0 hk (e 1 (by omega)) q, r⟩
set_option maxRecDepth 100000 in
set_option maxHeartbeats 4000000 in
theorem all_step {N : Nat} (H0 : ok_0 N) (H1 : ok_1 N) (H2 : ok_2 N) (H3 : ok_3 N) (H4 : ok_4 N) (H5 : ok_5 N) (H6 : ok_6 N) (H7 : ok_7 N) (H8 : ok_8 N) (H9 : ok_9 N) (H10 : ok_10 N) (H11 : ok_11 N) (H12 : ok_12 N) (H13 : ok_13 N) (H14 : ok_14 N) (H15 : ok_15 N) (H16 : ok_16 N) (H17 : ok_17 N) (H18 : ok_18 N) (H19 : ok_19 N) (H20 : ok_20 N) (H21 : ok_21 N) (H22 : ok_22 N) (H23 : ok_23 N) (H24 : ok_24 N) (H25 : ok_25 N) (H26 : ok_26 N) (H27 : ok_27 N) (H28 : ok_28 N) (H29 : ok_29 N) (H30 : ok_30 N) (H31 : ok_31 N) (H32 : ok_32 N) (H33 : ok_33 N) (H34 : ok_34 N) (H35 : ok_35 N) (H36 : ok_36 N) (H37 : ok_37 N) (H38 : ok_38 N) (H39 : ok_39 N) (H40 : ok_40 N) (H41 : ok_41 N) (H42 : ok_42 N) (H43 : ok_43 N) (H44 : ok_44 N) (H45 : ok_45 N) (H46 : ok_46 N) (H47 : ok_47 N) (H48 : ok_48 N) (H49 : ok_49 N) (H50 : ok_50 N) (H51 : ok_51 N) (H52 : ok_52 N) (H53 : ok_53 N) (H54 : ok_54 N) (H55 : ok_55 N) (H56 : ok_56 N) (H57 : ok_57 N) (H58 : ok_58 N) (H59 : ok_59 N) : stepOk N invW := by
  intro L xs a K k x4 h hk hi h7 e
  have e0 : am_pX (am_X0 L xs) 0 x4 = some (a 0) := by
    have k := e 0 (by omega)
    rw [show x4 + nI 0 = x4 from Int32.add_zero x4] at k
    exact k
  obtain ⟨j, hj, hk63⟩ := and63 (a 0)
  by_cases c0 : j = 0
  · subst c0
    exact turn_0 H0 hi h7 e0 e hk63
  by_cases c1 : j = 1
  · subst c1
    exact turn_1 H1 hi h7 e0 e hk63
  by_cases c2 : j = 2
  · subst c2
    exact turn_2 H2 hi h7 e0 e hk63
  by_cases c3 : j = 3
  · subst c3
    exact turn_3 H3 hi h7 e0 e hk63
  by_cases c4 : j = 4
  · subst c4
    exact turn_4 H4 hi h7 e0 e hk63
  by_cases c5 : j = 5
  · subst c5
    exact turn_5 H5 hi h7 e0 e hk63
  by_cases c6 : j = 6
  · subst c6
    exact turn_6 H6 hi h7 e0 e hk63
  by_cases c7 : j = 7
  · subst c7
    exact turn_7 H7 hi h7 e0 e hk63
  by_cases c8 : j = 8
  · subst c8
    exact turn_8 H8 hi h7 e0 e hk63
  by_cases c9 : j = 9
  · subst c9
    exact turn_9 H9 hi h7 e0 e hk63
  by_cases c10 : j = 10
  · subst c10
    exact turn_10 H10 hi h7 e0 e hk63
  by_cases c11 : j = 11
  · subst c11
    exact turn_11 H11 hi h7 e0 e hk63
  by_cases c12 : j = 12
  · subst c12
    exact turn_12 H12 hi h7 e0 e hk63
  by_cases c13 : j = 13
  · subst c13
    exact turn_13 H13 hi h7 e0 e hk63
  by_cases c14 : j = 14
  · subst c14
    exact turn_14 H14 hi h7 e0 e hk63
  by_cases c15 : j = 15
  · subst c15
    exact turn_15 H15 hi h7 e0 e hk63
  by_cases c16 : j = 16
  · subst c16
    exact turn_16 H16 hi h7 e0 e hk63
  by_cases c17 : j = 17
  · subst c17
    exact turn_17 H17 hi h7 e0 e hk63
  by_cases c18 : j = 18
  · subst c18
    exact turn_18 H18 hi h7 e0 e hk63
  by_cases c19 : j = 19
  · subst c19
    exact turn_19 H19 hi h7 e0 e hk63
  by_cases c20 : j = 20
  · subst c20
    exact turn_20 H20 hi h7 e0 e hk63
  by_cases c21 : j = 21
  · subst c21
    exact turn_21 H21 hi h7 e0 e hk63
  by_cases c22 : j = 22
  · subst c22
    exact turn_22 H22 hi h7 e0 e hk63
  by_cases c23 : j = 23
  · subst c23
    exact turn_23 H23 hi h7 e0 e hk63
  by_cases c24 : j = 24
  · subst c24
    exact turn_24 H24 hi h7 e0 e hk63
  by_cases c25 : j = 25
  · subst c25
    exact turn_25 H25 hi h7 e0 e hk63
  by_cases c26 : j = 26
  · subst c26
    exact turn_26 H26 hi h7 e0 e hk63
  by_cases c27 : j = 27
  · subst c27
    exact turn_27 H27 hi h7 e0 e hk63
  by_cases c28 : j = 28
  · subst c28
    exact turn_28 H28 hi h7 e0 e hk63
  by_cases c29 : j = 29
  · subst c29
    exact turn_29 H29 hi h7 e0 e hk63
  by_cases c30 : j = 30
  · subst c30
    exact turn_30 H30 hi h7 e0 e hk63
  by_cases c31 : j = 31
  · subst c31
    exact turn_31 H31 hi h7 e0 e hk63
  by_cases c32 : j = 32
  · subst c32
    exact turn_32 H32 hi h7 e0 e hk63
  by_cases c33 : j = 33
  · subst c33
    exact turn_33 H33 hi h7 e0 e hk63
  by_cases c34 : j = 34
  · subst c34
    exact turn_34 H34 hi h7 e0 e hk63
  by_cases c35 : j = 35
  · subst c35
    exact turn_35 H35 hi h7 e0 e hk63
  by_cases c36 : j = 36
  · subst c36
    exact turn_36 H36 hi h7 e0 e hk63
  by_cases c37 : j = 37
  · subst c37
    exact turn_37 H37 hi h7 e0 e hk63
  by_cases c38 : j = 38
  · subst c38
    exact turn_38 H38 hi h7 e0 e hk63
  by_cases c39 : j = 39
  · subst c39
    exact turn_39 H39 hi h7 e0 e hk63
  by_cases c40 : j = 40
  · subst c40
    exact turn_40 H40 hi h7 e0 e hk63
  by_cases c41 : j = 41
  · subst c41
    exact turn_41 H41 hi h7 e0 e hk63
  by_cases c42 : j = 42
  · subst c42
    exact turn_42 H42 hi h7 e0 e hk63
  by_cases c43 : j = 43
  · subst c43
    exact turn_43 H43 hi h7 e0 e hk63
  by_cases c44 : j = 44
  · subst c44
    exact turn_44 H44 hi h7 e0 e hk63
  by_cases c45 : j = 45
  · subst c45
    exact turn_45 H45 hi h7 e0 e hk63
  by_cases c46 : j = 46
  · subst c46
    exact turn_46 H46 hi h7 e0 e hk63
  by_cases c47 : j = 47
  · subst c47
    exact turn_47 H47 hi h7 e0 e hk63
  by_cases c48 : j = 48
  · subst c48
    exact turn_48 H48 hi h7 e0 e hk63
  by_cases c49 : j = 49
  · subst c49
    exact turn_49 H49 hi h7 e0 e hk63
  by_cases c50 : j = 50
  · subst c50
    exact turn_50 H50 hi h7 e0 e hk63
  by_cases c51 : j = 51
  · subst c51
    exact turn_51 H51 hi h7 e0 e hk63
  by_cases c52 : j = 52
  · subst c52
    exact turn_52 H52 hi h7 e0 e hk63
  by_cases c53 : j = 53
  · subst c53
    exact turn_53 H53 hi h7 e0 e hk63
  by_cases c54 : j = 54
  · subst c54
    exact turn_54 H54 hi h7 e0 e hk63
  by_cases c55 : j = 55
  · subst c55
    exact turn_55 H55 hi h7 e0 e hk63
  by_cases c56 : j = 56
  · subst c56
    exact turn_56 H56 hi h7 e0 e hk63
  by_cases c57 : j = 57
  · subst c57
    exact turn_57 H57 hi h7 e0 e hk63
  by_cases c58 : j = 58
  · subst c58
    exact turn_58 H58 hi h7 e0 e hk63
  by_cases c59 : j = 59
  · subst c59
    exact turn_59 H59 hi h7 e0 e hk63
  refine ⟨h, lk_no (a0 := a 0) h7 e0 (fun k hk9 e => ?_), inv_up hi⟩
  have e2 : j = k := (nI_eq (by omega) (by omega)).mp (hk63.symm.trans e)
  omega
set_option maxRecDepth 100000 in
set_option maxHeartbeats 4000000 in
theorem all_goal {N : Nat} (hN : 200 < N) (HS : stepOk N invW) (L : Nat) (xs : Nat → Int32) (hL : L ≤ 448) : ∃ (N : Nat) (h1 : am_H), fm_0 (am_X0 L xs) N [] = some (.inl (some (.int 1), h1)) ∧ h1.length ≤ 600128 ∧ am_sz h1 ≤ 7301098 := by
  obtain ⟨h1, k, e1, e2, e3⟩ := inv_goal hN invW inv_0 HS L xs hL
  exact ⟨N, h1, e1, inv_fits e2 e3⟩
