/-! ===== trees ===== -/
theorem tC_uL : ∀ n, n < 13 → ∀ c, c < 6 → (tCs n).getD c 0 = uT c n := by decide +kernel
theorem tC_u {w t n : Nat} (hw : w < 3) (ht : t ≤ 1) (hn : n ≤ 12) : mnN tC w t n = lN (uT (2 * w + t) n) := by
  unfold mnN
  by_cases c : 1 ≤ n
  · rw [if_pos c]
    unfold tC lN
    rw [show (28 * w + 14 * t + n) % 14 = n by omega, show (28 * w + 14 * t + n) / 14 = 2 * w + t by omega, tC_uL n (by omega) (2 * w + t) (by omega)]
  · rw [if_neg c, show n = 0 by omega]
    rfl
set_option maxRecDepth 100000 in
set_option maxHeartbeats 4000000 in
theorem x_377 {V : Nat → Nat → Value} {I : Nat → Nat → Int32} {L : Nat → Nat → Int64} {R : Nat → Nat → Option Nat} {tl : am_H} {N : Nat} (hN : 40 < N) (hv : V 174 80 = .int 0) (h0 : L 224 = fun _ => 0) (h1 : L 225 = fun _ => 0) : ∃ Y1, fm_377 N (.ref 174) (fx V I L R ++ tl) = some (.inl (none, fx (vup V 174 80 (.int 1)) I (lup (lup (lup L 224 tC) 225 tS) 226 Y1) R ++ tl)) := by
  have e : hc (fx (vup V 174 80 (.int 1)) I L R ++ tl) (L 224) (L 225) (L 226) = fx (vup V 174 80 (.int 1)) I L R ++ tl := rfl
  rw [h0, h1] at e
  obtain ⟨Y1, k⟩ := e_377 (h := fx V I L R ++ tl) (h1 := fx (vup V 174 80 (.int 1)) I L R ++ tl) (Y := L 226) hN (by show am_vI (some (V 174 80)) = _; rw [hv]; rfl) (by rw [e]; exact ev_p rfl rfl rfl rfl) ⟨by rw [List.length_append, fx_len]; omega, _, rfl, rfl, rfl, rfl⟩
  exact ⟨Y1, k⟩
set_option maxRecDepth 100000 in
set_option maxHeartbeats 4000000 in
theorem x_377c {V : Nat → Nat → Value} {I : Nat → Nat → Int32} {L : Nat → Nat → Int64} {R : Nat → Nat → Option Nat} {tl : am_H} {N : Nat} (hv : V 174 80 = .int 1) : fm_377 N (.ref 174) (fx V I L R ++ tl) = some (.inl (none, fx V I L R ++ tl)) := by
  unfold fm_377 fg_377_0
  refine ev_b (a := 1) (by show am_vI (some (V 174 80)) = _; rw [hv]; rfl) ?_
  exact ev_f (by decide) rfl
set_option maxRecDepth 100000 in
set_option maxHeartbeats 4000000 in
theorem x_383 {V : Nat → Nat → Value} {I : Nat → Nat → Int32} {L : Nat → Nat → Int64} {R : Nat → Nat → Option Nat} {tl : am_H} {w t n : Nat} (hC : L 224 = tC) (hw : w < 3) (ht : t ≤ 1) (hn : n ≤ 12) : fm_383 (.ref 174) (nI w) (nI t) (nI n) (fx V I L R ++ tl) = some (.inl (some (.long (lN (uT (2 * w + t) n))), fx V I L R ++ tl)) := by
  have k := e_383 (h := fx V I L R ++ tl) (C := L 224) (S := L 225) (Y := L 226) ⟨by rw [List.length_append, fx_len]; omega, _, rfl, rfl, rfl, rfl⟩ hw ht (by omega : n ≤ 13)
  rw [hC, tC_u hw ht hn, ← hC] at k
  exact k
theorem t12 (a : Int32) : (a < 1 ∨ 12 < a) ∨ ∃ n, 1 ≤ n ∧ n ≤ 12 ∧ a = nI n := by
  by_cases c : a < 1
  · exact .inl (.inl c)
  · by_cases c2 : 12 < a
    · exact .inl (.inr c2)
    · obtain ⟨k, hk, rfl⟩ := nI_of (x := a) (fun h9 => c (Int32.lt_trans h9 (by decide)))
      exact .inr ⟨k, Nat.not_lt.mp (fun h9 => c ((nI_ltI hk (by decide)).mpr h9)), Nat.not_lt.mp (fun h9 => c2 ((nI_ltI (by decide) hk).mpr h9)), rfl⟩
theorem rkTot_u {c n : Nat} (hc : c < 6) (h1 : 1 ≤ n) (hn : n < 13) : rkTot tT (nI c) (nI n) = lN (uT c n) := by
  unfold rkTot
  rw [if_neg (nI_nle (by omega) (by omega)), if_neg (show ¬ (13 : Int32) ≤ nI n from nI_ge (a := n) (b := 13) hn (by decide)), if_neg (nI_pos (by omega)), if_neg (show ¬ (6 : Int32) ≤ nI c from nI_ge (a := c) (b := 6) hc (by decide)), rk_mul (b := 0), nI_clamp (by omega), tT_u h1 hn]
theorem uT_0 : ∀ n, n < 13 → 1 ≤ n → tT n = lN (uT 0 n) := by
  intro n h h1
  have k := tT_u (c := 0) h1 h
  rw [Nat.zero_mul, Nat.zero_add] at k
  exact k
set_option maxRecDepth 100000 in
set_option maxHeartbeats 4000000 in
theorem p_9 (N : Nat) (hN : 100 < N) (a1 : Int32) : ∃ h', opBL (fm_87 (.ref 0) a1 (.ref 268) (hp0 (tW, tT))) (fun h1 => fm_376 N (.ref 174) a1 h1) vfI h' ∧ fits h' := by
  rcases t12 a1 with hn | ⟨n, n1, n2, rfl⟩
  · refine ⟨hpT (tW, tT) 1, ⟨1, hpE (tW, tT), 0, 0, ?_, rfl, ?_, rfl, rfl, fun e => absurd e (by decide)⟩, hpT_fits (tW, tT) 1⟩
    · have hz : fm_88 (.ref 0) a1 (hp0 (tW, tT)) = some (.inr (0, hpE (tW, tT))) := by
        unfold fm_88 fg_88_0
        by_cases c : a1 < 1
        · exact ev_t c rfl
        · refine ev_f c ?_
          exact ev_f (Int32.not_le.mpr (hn.resolve_left c)) rfl
      simp only [fm_87, fg_87_0, hz]
      rfl
    · unfold fm_376 fg_376_0
      refine ev_cI (pe_327 _ _ _ _) ?_
      rw [show pv_327 a1.toInt64 1 12 = 0 from hn.elim (fun h9 => in_lo (w64lt (b := 1) h9)) (fun h9 => in_hi (w64lt (a := 12) h9))]
      rfl
  · have hz : fm_88 (.ref 0) (nI n) (hp0 (tW, tT)) = some (.inl (some (.long (lN (uT 0 n))), hp0 (tW, tT))) := by
      unfold fm_88 fg_88_0
      refine ev_f (nI_nlt (b := 1) n1 (by omega)) ?_
      refine ev_t (nI_le (b := 12) n2 (by decide)) ?_
      refine ev_b (a := .ref 76) rfl ?_
      refine ev_i rfl ?_
      refine ev_cL (e_15 (a := 76) (ta := 78) (T := tT) rfl rfl rfl 0 (nI n)) ?_
      rw [show rkTot tT 0 (nI n) = lN (uT 0 n) from rkTot_u (c := 0) (by omega) n1 (by omega)]
    obtain ⟨Y1, k⟩ := x_377 (V := vup V0 174 0 (.int 0)) (I := I0) (L := lup (L0 (tW, tT)) 268 (vp_updL (L0 (tW, tT) 268) 0 (lN (uT 0 n)))) (R := R0) (tl := []) (N := N) (by omega) rfl rfl rfl
    refine ⟨fx (vup (vup V0 174 0 (.int 0)) 174 80 (.int 1)) I0 (lup (lup (lup (lup (L0 (tW, tT)) 268 (vp_updL (L0 (tW, tT) 268) 0 (lN (uT 0 n)))) 224 tC) 225 tS) 226 Y1) R0 ++ [], ⟨0, fx V0 I0 (lup (L0 (tW, tT)) 268 (vp_updL (L0 (tW, tT) 268) 0 (lN (uT 0 n)))) R0 ++ [], lN (uT 0 n), lN (uT 0 n), ?_, rfl, ?_, rfl, rfl, fun _ => ⟨rfl, rfl⟩⟩, fits_fx (Nat.zero_le _) (Nat.zero_le _)⟩
    · simp only [fm_87, fg_87_0, hz]
      rfl
    · show fm_376 N (.ref 174) (nI n) (fx V0 I0 (lup (L0 (tW, tT)) 268 (vp_updL (L0 (tW, tT) 268) 0 (lN (uT 0 n)))) R0 ++ []) = _
      unfold fm_376 fg_376_0
      refine ev_cI (pe_327 _ _ _ _) ?_
      rw [show pv_327 (nI n).toInt64 1 12 = 1 from in_ok (w64le (a := 1) (nI_le (a := 1) n1 (by omega))) (w64le (b := 12) (nI_le (b := 12) n2 (by decide)))]
      refine ev_f (by decide) ?_
      unfold fg_376_18
      refine ev_b (a := fx (vup V0 174 0 (.int 0)) I0 (lup (L0 (tW, tT)) 268 (vp_updL (L0 (tW, tT) 268) 0 (lN (uT 0 n)))) R0 ++ []) (ev_p rfl rfl rfl rfl) ?_
      refine ev_b (a := 0) rfl ?_
      refine ev_t (by decide) ?_
      refine ev_i rfl ?_
      refine ev_cV k ?_
      refine ev_i rfl ?_
      exact ev_cL (x_383 (w := 0) (t := 0) (n := n) rfl (by omega) (by omega) n2) rfl
