/-! ===== search in the class: all sorts ===== -/
theorem u4_p : ∀ n, n < 6 → 1 ≤ n → 1 ≤ uT 4 n := by decide +kernel
set_option maxRecDepth 100000 in
set_option maxHeartbeats 4000000 in
theorem c_266u {V : Nat → Nat → Value} {I : Nat → Nat → Int32} {L : Nat → Nat → Int64} {R : Nat → Nat → Option Nat} {tl0 : am_H} {N m n : Nat} {cN a : Nat → Nat} {kp : Bool} (hN : 200000 < N) (hc : csS V I m cN) (hi : ∀ k k', k < m → k' < m → a k = a k' → k = k') (n2 : 2 ≤ n) (n5 : n ≤ 5) (hk4 : kp = true → n ≤ 4) {Ln : Nat} {xs : Nat → Int32} {s : Nat} {r13 : Value → Int32 → Int32 → Int32 → Int32 → Int32 → am_H → Option am_O} {tl : am_H} {F : Nat → Nat → Int64} (hs : s = 7 ∨ s = 8) (hst : stS I R m cN a kp n (sF 4 n s) tl0 tl F) : fndS V I L R m cN a n tl0 (uT 4 n) (fg_266_73 (am_X0 Ln xs) N r13 N (.ref 76) (nI n) (bI kp) (nI (FR n)) (nI (FR n + sF 4 n s)) (nI s) 1 (nI n) (nI (n - 1)) (fx V I L R ++ tl)) ∨ ∃ tl' F', stS I R m cN a kp n (sF 4 n (s + 1)) tl0 tl' F' ∧ fg_266_73 (am_X0 Ln xs) N r13 N (.ref 76) (nI n) (bI kp) (nI (FR n)) (nI (FR n + sF 4 n s)) (nI s) 1 (nI n) (nI (n - 1)) (fx V I L R ++ tl) = r13 (.ref 76) (nI n) (bI kp) (nI (FR n)) (nI (FR n + sF 4 n (s + 1))) (nI (s + 1)) (fx V I L R ++ tl') := by
  obtain ⟨w0, w7, w8, w9, w10, w15⟩ := u4_w n (by omega) n2
  have ew : uW 4 s n = uT 4 (n - 1) := by rcases hs with rfl | rfl <;> assumption
  have es : sF 4 n (s + 1) = sF 4 n s + uT 4 (n - 1) := by rw [← ew]; rfl
  have le : sF 4 n (s + 1) ≤ uT 4 n := by
    rw [← w15]
    exact sF_le (by omega)
  have ef := FR_s (n - 1) (by omega) (by omega)
  have f7 := FR_5 (n - 1 + 1) (by omega)
  obtain ⟨M, rfl⟩ : ∃ M, N = M + 1 + 1 := ⟨N - 2, by omega⟩
  have h := c_266a (V := V) (I := I) (L := L) (R := R) (tl0 := tl0) (N := M + 1 + 1) (m := m) (n := n) (cN := cN) (a := a) (kp := kp) hN hc hi (by omega) n5 hk4 (Ln := Ln) (xs := xs) (s := s) (f := n - 1) (g := 0) (P0 := sF 4 n s) (cb := 1) (qb := 0) (x6 := 1) (x7 := nI n) (r13 := r13) (r73 := fg_266_73 (am_X0 Ln xs) (M + 1 + 1) r13 (M + 1)) (by omega) (by omega) (by omega) rfl (by rw [Nat.mul_one]; omega) (by omega) (fun i j hi' hj tl F k hk ht hl => by
    obtain rfl : j = 0 := by omega
    have q := c_265b (V := V) (I := I) (L := L) (s := s) (qa := FR (n - 1) + i) (qb := 0 + 0) (o2 := none) hc hk ht (by omega) (hl (n - 1) (by omega) (by omega) i hi') (by rcases hs with h | h; exact .inl h; exact .inr (.inl h))
    rw [q, if_pos (show s < 10 by omega)]
    unfold vC
    rw [Nat.mul_one, Nat.add_zero, vQ_1 n2 n5 hs hi']) (uT 4 (n - 1)) 0 (M + 1 + 1) tl F (by omega) (by have := uT4_b (n - 1) (by omega); omega) (by rw [Nat.zero_mul, Nat.add_zero]; exact hst)
  rw [Nat.zero_mul, Nat.add_zero, Nat.add_zero, Nat.mul_one, ← es, show n - 1 + 1 = n by omega] at h
  have e0 : fg_266_73 (am_X0 Ln xs) (M + 1 + 1) r13 (M + 1 + 1) (.ref 76) (nI n) (bI kp) (nI (FR n)) (nI (FR n + sF 4 n s)) (nI s) 1 (nI n) (nI (n - 1)) (fx V I L R ++ tl) = fg_266_115 (am_X0 Ln xs) (M + 1 + 1) r13 (fg_266_73 (am_X0 Ln xs) (M + 1 + 1) r13 (M + 1)) (M + 1 + 1) (.ref 76) (nI n) (bI kp) (nI (FR n)) (nI (FR n + sF 4 n s)) (nI s) 1 (nI n) (nI (n - 1)) (nI 0) (nI (0 + 1)) (nI (FR (n - 1))) (fx V I L R ++ tl) := by
    apply hd_266_73
    refine ev_f (nI_ge (by omega) (by omega)) (ev_f (by decide) ?_)
    rw [show nI n - 1 = nI (n - 1) from nI_sub (b := 1) (by omega), nI_sub (Nat.le_refl (n - 1)), Nat.sub_self]
    apply hd_266_105
    exact ev_b (gX30 (by omega)) rfl
  rw [e0]
  rcases h with h | ⟨tl', F', st2, e2⟩
  · exact .inl (fndS_le le h)
  · refine .inr ⟨tl', F', st2, e2.trans ?_⟩
    apply hd_266_73
    refine ev_t (nI_le (Nat.le_refl n) (by omega)) ?_
    rw [nI_1]
set_option maxRecDepth 100000 in
set_option maxHeartbeats 4000000 in
theorem c_266f {V : Nat → Nat → Value} {I : Nat → Nat → Int32} {L : Nat → Nat → Int64} {R : Nat → Nat → Option Nat} {tl0 : am_H} {N m n : Nat} {cN a : Nat → Nat} {kp : Bool} (hN : 200000 < N) (hc : csS V I m cN) (hi : ∀ k k', k < m → k' < m → a k = a k' → k = k') (n2 : 2 ≤ n) (n5 : n ≤ 5) (hk4 : kp = true → n ≤ 4) {Ln : Nat} {xs : Nat → Int32} {s : Nat} {r13 : Value → Int32 → Int32 → Int32 → Int32 → Int32 → am_H → Option am_O} (hs : 10 ≤ s ∧ s ≤ 14) (hle : sF 4 n s + s2 4 4 (n - 1) (n - 2) ≤ uT 4 n) : ∀ (t f K : Nat) (tl : am_H) (F : Nat → Nat → Int64), f + t = n - 1 → 1 ≤ f → t < K → stS I R m cN a kp n (sF 4 n s + s2 4 4 (n - 1) (f - 1)) tl0 tl F → fndS V I L R m cN a n tl0 (uT 4 n) (fg_266_73 (am_X0 Ln xs) N r13 K (.ref 76) (nI n) (bI kp) (nI (FR n)) (nI (FR n + (sF 4 n s + s2 4 4 (n - 1) (f - 1)))) (nI s) 0 (nI (n - 1)) (nI f) (fx V I L R ++ tl)) ∨ ∃ tl' F', stS I R m cN a kp n (sF 4 n s + s2 4 4 (n - 1) (n - 2)) tl0 tl' F' ∧ fg_266_73 (am_X0 Ln xs) N r13 K (.ref 76) (nI n) (bI kp) (nI (FR n)) (nI (FR n + (sF 4 n s + s2 4 4 (n - 1) (f - 1)))) (nI s) 0 (nI (n - 1)) (nI f) (fx V I L R ++ tl) = r13 (.ref 76) (nI n) (bI kp) (nI (FR n)) (nI (FR n + (sF 4 n s + s2 4 4 (n - 1) (n - 2)))) (nI (s + 1)) (fx V I L R ++ tl') := by
  intro t
  induction t with
  | zero =>
    intro f K tl F hf f1 hK hst
    obtain ⟨K, rfl⟩ : ∃ k, K = k + 1 := ⟨K - 1, by omega⟩
    obtain rfl : f = n - 1 := by omega
    rw [show n - 1 - 1 = n - 2 by omega] at hst ⊢
    refine .inr ⟨tl, F, hst, ?_⟩
    apply hd_266_73
    refine ev_t (nI_le (Nat.le_refl _) (by omega)) ?_
    rw [nI_1]
  | succ t ih =>
    intro f K tl F hf f1 hK hst
    obtain ⟨K, rfl⟩ : ∃ k, K = k + 1 := ⟨K - 1, by omega⟩
    have e2s : s2 4 4 (n - 1) f = s2 4 4 (n - 1) (f - 1) + uT 4 f * uT 4 (n - 1 - f) := by
      obtain ⟨g, rfl⟩ : ∃ g, f = g + 1 := ⟨f - 1, by omega⟩
      rfl
    have le2 := s2_le (a := 4) (b := 4) (M := n - 1) (s := f) (t := n - 2) (by omega)
    have eg := FR_s (n - 1 - f) (by omega) (by omega)
    have g7 := FR_5 (n - 1 - f + 1) (by omega)
    have ef := FR_s f (by omega) f1
    have f7 := FR_5 (f + 1) (by omega)
    have h := c_266a (V := V) (I := I) (L := L) (R := R) (tl0 := tl0) (N := N) (m := m) (n := n) (cN := cN) (a := a) (kp := kp) hN hc hi (by omega) n5 hk4 (Ln := Ln) (xs := xs) (s := s) (f := f) (g := n - 1 - f) (P0 := sF 4 n s + s2 4 4 (n - 1) (f - 1)) (cb := uT 4 (n - 1 - f)) (qb := FR (n - 1 - f)) (x6 := 0) (x7 := nI (n - 1)) (r13 := r13) (r73 := fg_266_73 (am_X0 Ln xs) N r13 K) f1 (by omega) (by omega) rfl (by omega) (by omega) (fun i j hi' hj tl F k hk ht hl => by
      have q := c_265b (V := V) (I := I) (L := L) (s := s) (qa := FR f + i) (qb := FR (n - 1 - f) + j) hc hk ht (by omega) (hl f f1 (by omega) i hi') (.inr (.inr ⟨hs, by omega, hl (n - 1 - f) (by omega) (by omega) j hj⟩))
      rw [q, if_neg (show ¬ s < 10 by omega)]
      unfold vC
      rw [show sF 4 n s + s2 4 4 (n - 1) (f - 1) + (i * uT 4 (n - 1 - f) + j) = sF 4 n s + (s2 4 4 (n - 1) (f - 1) + (i * uT 4 (n - 1 - f) + j)) by omega, vQ_2 (by omega) n5 hs f1 (by omega) hi' hj]) (uT 4 f) 0 N tl F (by omega) (by have := uT4_b f (by omega); omega) (by rw [Nat.zero_mul, Nat.add_zero]; exact hst)
    rw [Nat.zero_mul, Nat.add_zero, Nat.add_zero, show sF 4 n s + s2 4 4 (n - 1) (f - 1) + uT 4 f * uT 4 (n - 1 - f) = sF 4 n s + s2 4 4 (n - 1) f by omega, ← eg] at h
    have e0 : fg_266_73 (am_X0 Ln xs) N r13 (K + 1) (.ref 76) (nI n) (bI kp) (nI (FR n)) (nI (FR n + (sF 4 n s + s2 4 4 (n - 1) (f - 1)))) (nI s) 0 (nI (n - 1)) (nI f) (fx V I L R ++ tl) = fg_266_115 (am_X0 Ln xs) N r13 (fg_266_73 (am_X0 Ln xs) N r13 K) N (.ref 76) (nI n) (bI kp) (nI (FR n)) (nI (FR n + (sF 4 n s + s2 4 4 (n - 1) (f - 1)))) (nI s) 0 (nI (n - 1)) (nI f) (nI (n - 1 - f)) (nI (FR (n - 1 - f + 1))) (nI (FR f)) (fx V I L R ++ tl) := by
      apply hd_266_73
      refine ev_f (nI_ge (by omega) (by omega)) (ev_t rfl ?_)
      rw [show nI n - 1 = nI (n - 1) from nI_sub (b := 1) (by omega), nI_sub (by omega), nI_1]
      refine ev_b (gX30 (by omega)) ?_
      apply hd_266_105
      exact ev_b (gX30 (by omega)) rfl
    rw [e0]
    rcases h with h | ⟨tl', F', st2, e2⟩
    · exact .inl (fndS_le (by omega) h)
    · rw [e2]
      have h2 := ih (f + 1) K tl' F' (by omega) (by omega) (by omega) (by rw [show f + 1 - 1 = f by omega]; exact st2)
      rw [show f + 1 - 1 = f by omega] at h2
      exact h2
set_option maxRecDepth 100000 in
set_option maxHeartbeats 4000000 in
theorem c_266s {V : Nat → Nat → Value} {I : Nat → Nat → Int32} {L : Nat → Nat → Int64} {R : Nat → Nat → Option Nat} {tl0 : am_H} {N m n : Nat} {cN a : Nat → Nat} {kp : Bool} (hN : 200000 < N) (hc : csS V I m cN) (hi : ∀ k k', k < m → k' < m → a k = a k' → k = k') (n2 : 2 ≤ n) (n5 : n ≤ 5) (hk4 : kp = true → n ≤ 4) {Ln : Nat} {xs : Nat → Int32} : ∀ (t s K : Nat) (tl : am_H) (F : Nat → Nat → Int64), s + t = 15 → 7 ≤ s → t < K → stS I R m cN a kp n (sF 4 n s) tl0 tl F → fndS V I L R m cN a n tl0 (uT 4 n) (fg_266_13 (am_X0 Ln xs) N K (.ref 76) (nI n) (bI kp) (nI (FR n)) (nI (FR n + sF 4 n s)) (nI s) (fx V I L R ++ tl)) ∨ ∃ tl' F', stS I R m cN a kp n (uT 4 n) tl0 tl' F' ∧ fg_266_13 (am_X0 Ln xs) N K (.ref 76) (nI n) (bI kp) (nI (FR n)) (nI (FR n + sF 4 n s)) (nI s) (fx V I L R ++ tl) = some (.inl (some (.int (-1)), fx V I L R ++ tl')) := by
  obtain ⟨w0, w7, w8, w9, w10, w15⟩ := u4_w n (by omega) n2
  intro t
  induction t with
  | zero =>
    intro s K tl F hs s7 hK hst
    obtain ⟨K, rfl⟩ : ∃ k, K = k + 1 := ⟨K - 1, by omega⟩
    obtain rfl : s = 15 := by omega
    rw [w15] at hst
    refine .inr ⟨tl, F, hst, ?_⟩
    apply hd_266_13
    exact ev_t (by decide) rfl
  | succ t ih =>
    intro s K tl F hs s7 hK hst
    obtain ⟨K, rfl⟩ : ∃ k, K = k + 1 := ⟨K - 1, by omega⟩
    have n14 : ¬ (14 : Int32) < nI s := nI_nlt (a := 14) (by omega) (by omega)
    rcases (by omega : (s = 7 ∨ s = 8) ∨ s = 9 ∨ (10 ≤ s ∧ s ≤ 14)) with k | k | k
    · have e0 : fg_266_13 (am_X0 Ln xs) N (K + 1) (.ref 76) (nI n) (bI kp) (nI (FR n)) (nI (FR n + sF 4 n s)) (nI s) (fx V I L R ++ tl) = fg_266_73 (am_X0 Ln xs) N (fg_266_13 (am_X0 Ln xs) N K) N (.ref 76) (nI n) (bI kp) (nI (FR n)) (nI (FR n + sF 4 n s)) (nI s) 1 (nI n) (nI (n - 1)) (fx V I L R ++ tl) := by
        apply hd_266_13
        refine ev_f n14 (ev_f (nI_ge (b := 9) (by omega) (by omega)) ?_)
        apply hd_266_32
        refine ev_t (fun q => by have := (nI_eq (b := 9) (by omega) (by omega)).mp q; omega) (ev_f (by decide) ?_)
        apply hd_266_57
        refine ev_f (by decide) ?_
        apply hd_266_71
        rw [show nI n - 1 = nI (n - 1) from nI_sub (b := 1) (by omega)]
      rw [e0]
      rcases c_266u (V := V) (I := I) (L := L) (R := R) (tl0 := tl0) (N := N) (m := m) (n := n) (cN := cN) (a := a) (kp := kp) hN hc hi n2 n5 hk4 (Ln := Ln) (xs := xs) (r13 := fg_266_13 (am_X0 Ln xs) N K) k hst with h | ⟨tl', F', st2, e2⟩
      · exact .inl h
      · rw [e2]
        exact ih (s + 1) K tl' F' (by omega) (by omega) (by omega) st2
    · subst k
      have es : sF 4 n (9 + 1) = sF 4 n 9 := by
        show sF 4 n 9 + uW 4 9 n = _
        rw [w9, Nat.add_zero]
      have e0 : fg_266_13 (am_X0 Ln xs) N (K + 1) (.ref 76) (nI n) (bI kp) (nI (FR n)) (nI (FR n + sF 4 n 9)) (nI 9) (fx V I L R ++ tl) = fg_266_13 (am_X0 Ln xs) N K (.ref 76) (nI n) (bI kp) (nI (FR n)) (nI (FR n + sF 4 n (9 + 1))) (nI (9 + 1)) (fx V I L R ++ tl) := by
        obtain ⟨M, rfl⟩ : ∃ M, N = M + 1 := ⟨N - 1, by omega⟩
        apply hd_266_13
        refine ev_f n14 (ev_t (by decide) ?_)
        apply hd_266_32
        refine ev_f (fun q => q rfl) ?_
        apply hd_266_57
        refine ev_t rfl ?_
        apply hd_266_71
        apply hd_266_73
        refine ev_t (by decide) ?_
        rw [nI_1, es]
      rw [e0]
      exact ih (9 + 1) K tl F (by omega) (by omega) (by omega) (by rw [es]; exact hst)
    · have es : sF 4 n (s + 1) = sF 4 n s + s2 4 4 (n - 1) (n - 2) := by
        show sF 4 n s + uW 4 s n = _
        rw [w10 s (by omega) k.1]
      have le : sF 4 n (s + 1) ≤ uT 4 n := by
        rw [← w15]
        exact sF_le (by omega)
      have e0 : fg_266_13 (am_X0 Ln xs) N (K + 1) (.ref 76) (nI n) (bI kp) (nI (FR n)) (nI (FR n + sF 4 n s)) (nI s) (fx V I L R ++ tl) = fg_266_73 (am_X0 Ln xs) N (fg_266_13 (am_X0 Ln xs) N K) N (.ref 76) (nI n) (bI kp) (nI (FR n)) (nI (FR n + (sF 4 n s + s2 4 4 (n - 1) (1 - 1)))) (nI s) 0 (nI (n - 1)) (nI 1) (fx V I L R ++ tl) := by
        apply hd_266_13
        refine ev_f n14 (ev_t (nI_le (a := 9) (by omega) (by omega)) ?_)
        apply hd_266_32
        refine ev_t (fun q => by have := (nI_eq (b := 9) (by omega) (by omega)).mp q; omega) (ev_t rfl ?_)
        apply hd_266_57
        refine ev_t rfl ?_
        apply hd_266_71
        rw [show nI n - 1 = nI (n - 1) from nI_sub (b := 1) (by omega)]
        rfl
      rw [e0]
      rcases c_266f (V := V) (I := I) (L := L) (R := R) (tl0 := tl0) (N := N) (m := m) (n := n) (cN := cN) (a := a) (kp := kp) hN hc hi n2 n5 hk4 (Ln := Ln) (xs := xs) (s := s) (r13 := fg_266_13 (am_X0 Ln xs) N K) k (by omega) (n - 2) 1 N tl F (by omega) (by omega) (by omega) hst with h | ⟨tl', F', st2, e2⟩
      · exact .inl h
      · rw [e2, ← es]
        exact ih (s + 1) K tl' F' (by omega) (by omega) (by omega) (by rw [es]; exact st2)
set_option maxRecDepth 100000 in
set_option maxHeartbeats 4000000 in
theorem c_266 {V : Nat → Nat → Value} {I : Nat → Nat → Int32} {L : Nat → Nat → Int64} {R : Nat → Nat → Option Nat} {tl0 : am_H} {N m n : Nat} {cN a : Nat → Nat} {kp : Bool} (hN : 200000 < N) (hc : csS V I m cN) (hi : ∀ k k', k < m → k' < m → a k = a k' → k = k') (n2 : 2 ≤ n) (n5 : n ≤ 5) (hk4 : kp = true → n ≤ 4) {Ln : Nat} {xs : Nat → Int32} {tl : am_H} {F : Nat → Nat → Int64} (hst : stS I R m cN a kp n 0 tl0 tl F) : fndS V I L R m cN a n tl0 (uT 4 n) (fm_266 (am_X0 Ln xs) N (.ref 76) (nI n) (bI kp) (fx V I L R ++ tl)) ∨ ∃ tl' F', stS I R m cN a kp n (uT 4 n) tl0 tl' F' ∧ fm_266 (am_X0 Ln xs) N (.ref 76) (nI n) (bI kp) (fx V I L R ++ tl) = some (.inl (some (.int (-1)), fx V I L R ++ tl')) := by
  have e7 := sF7 n (by omega) n2
  have e0 : fm_266 (am_X0 Ln xs) N (.ref 76) (nI n) (bI kp) (fx V I L R ++ tl) = fg_266_13 (am_X0 Ln xs) N N (.ref 76) (nI n) (bI kp) (nI (FR n)) (nI (FR n + sF 4 n 7)) (nI 7) (fx V I L R ++ tl) := by
    apply hm_266
    apply hd_266_0
    refine ev_b (gX30 (by omega)) ?_
    rw [e7, Nat.add_zero]
    rfl
  rw [e0]
  exact c_266s hN hc hi n2 n5 hk4 8 7 N tl F (by omega) (by omega) (by omega) (by rw [e7]; exact hst)
