/-! ===== all turns of the law's loop, by what is kept ===== -/
theorem lw_lt {L k : Nat} (hk : 7 * k ≤ L) (h : L < 7 * k + 7) (hL : L ≤ 448) : Int32.ofNat L - 7 < nI (7 * k) := by
  by_cases c : L < 7
  · obtain rfl : k = 0 := by omega
    rcases (by omega : L = 0 ∨ L = 1 ∨ L = 2 ∨ L = 3 ∨ L = 4 ∨ L = 5 ∨ L = 6) with rfl | rfl | rfl | rfl | rfl | rfl | rfl
    · decide
    · decide
    · decide
    · decide
    · decide
    · decide
    · decide
  · rw [show Int32.ofNat L - 7 = nI (L - 7) from nI_sub (b := 7) (by omega)]
    exact nI_lt (by omega) (by omega)
theorem lw_ge {L k : Nat} (h : 7 * k + 7 ≤ L) (hL : L ≤ 448) : ¬ Int32.ofNat L - 7 < nI (7 * k) := by
  rw [show Int32.ofNat L - 7 = nI (L - 7) from nI_sub (b := 7) (by omega)]
  exact nI_nlt (by omega) (by omega)
theorem lw_at {L : Nat} {xs : Nat → Int32} {k j : Nat} (h : 7 * k + 7 ≤ L) (hL : L ≤ 448) (hj : j < 7) : am_pX (am_X0 L xs) 0 (nI (7 * k) + nI j) = some (xs (7 * k + j)) := by
  rw [nI_add]
  show (if am_inb (nI (7 * k + j)) L = true then some (xs (nI (7 * k + j)).toNatClampNeg) else none) = _
  rw [if_pos (am_inb_n (show 7 * k + j < L by omega) (by omega)), nI_clamp (by omega)]
/-- a turn keeps what is kept -/
def stepOk (N : Nat) (Inv : Nat → am_H → Prop) : Prop := ∀ (L : Nat) (xs a : Nat → Int32) (K k : Nat) (x4 : Int32) (h : am_H), k < 64 → Inv k h → ¬ (Int32.ofNat (am_X0 L xs 0).1) - 7 < x4 → (∀ j, j < 7 → am_pX (am_X0 L xs) 0 (x4 + nI j) = some (a j)) → ∃ h', lw_turn (am_X0 L xs) N K x4 h h' ∧ Inv (k + 1) h'
theorem inv_goal {N : Nat} (hN : 200 < N) (Inv : Nat → am_H → Prop) (h0 : Inv 0 (hp0 (tW, tT))) (hs : stepOk N Inv) (L : Nat) (xs : Nat → Int32) (hL : L ≤ 448) : ∃ h1 k, fm_0 (am_X0 L xs) N [] = some (.inl (some (.int 1), h1)) ∧ k ≤ 64 ∧ Inv k h1 := by
  have key : ∀ (m k K : Nat) (h : am_H), 7 * (k + m) ≤ L → L < 7 * (k + m) + 7 → m < K → Inv k h → ∃ h1 j, fg_0_23 (am_X0 L xs) N K (.ref 0) (.ref 174) (.ref 268) (nI (7 * k)) h = some (.inl (some (.int 1), h1)) ∧ j ≤ 64 ∧ Inv j h1 := by
    intro m
    induction m with
    | zero =>
      intro k K h a b c d
      obtain ⟨K, rfl⟩ : ∃ k, K = k + 1 := ⟨K - 1, by omega⟩
      refine ⟨h, k, ?_, by omega, d⟩
      rw [fg_0_23]
      exact ev_t (lw_lt (L := L) (by omega) (by omega) hL) rfl
    | succ m ih =>
      intro k K h a b c d
      obtain ⟨K, rfl⟩ : ∃ k, K = k + 1 := ⟨K - 1, by omega⟩
      obtain ⟨h', t, q⟩ := hs L xs (fun j => xs (7 * k + j)) K k (nI (7 * k)) h (by omega) d (lw_ge (L := L) (by omega) hL) (fun j hj => lw_at (by omega) hL hj)
      obtain ⟨h1, j, e1, e2⟩ := ih (k + 1) K h' (by omega) (by omega) (by omega) q
      refine ⟨h1, j, ?_, e2⟩
      unfold lw_turn at t
      rw [t, show nI (7 * k) + 7 = nI (7 * (k + 1)) from nI_add (7 * k) 7]
      exact e1
  have e0 := e_0 (X := am_X0 L xs) (N := N) hN
  rw [rk_all] at e0
  obtain ⟨h1, j, e1, e2, e3⟩ := key (L / 7) 0 N (hp0 (tW, tT)) (by omega) (by omega) (by omega) h0
  exact ⟨h1, j, by rw [e0]; exact e1, e2, e3⟩
