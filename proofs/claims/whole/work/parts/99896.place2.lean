/-! ===== place(b): both ===== -/
set_option maxRecDepth 100000 in
set_option maxHeartbeats 1600000 in
theorem r_394 {V : Nat → Nat → Value} {I : Nat → Nat → Int32} {L : Nat → Nat → Int64} {R : Nat → Nat → Option Nat} {tl : am_H} {N k : Nat} {l r : List (Nat × Nat)} {x : Nat × Nat} {v : Nat → Int32} (hN : 100 < N) (ho : okF [(0, 1, 0)] l) (hl : l.length ≤ 12) (hdr : l.drop k = x :: r) (hw : wt V) (h4 : L 224 = tC) (h5 : L 225 = tS) (hS : I 188 k = nI x.1) (hV : I 189 k = v k) (hT : rowT (I 192) l 0) (hW : I 232 k = nI (inL l k)) (hL : ∀ j, k < j → j < l.length → L 231 j = lN (rR l v j)) (hcv : x.1 = 0 → (v k).toInt64 = lN (clN v k)) (hv0 : x.1 ≠ 0 → clN v k = 0) : fm_394 N (.ref 174) (nI k) (fx V I L R ++ tl) = some (.inl (some (.long (lN (rR l v k))), fx V I L R ++ tl)) := by
  have len := drop_len hdr
  obtain ⟨x', r', mm, hdr', hF⟩ := isF_at (okF_F l _ ho) (show k < l.length by omega)
  rw [hdr] at hdr'
  obtain ⟨rfl, rfl⟩ := List.cons.inj hdr'
  obtain ⟨x20, -⟩ := form_at ho hdr
  obtain ⟨c4, cw, ct⟩ := ct_lt ho hdr
  have i1 := in_le1 l k
  obtain ⟨n, hn⟩ : ∃ n, n = tk 1 (l.drop k) := ⟨_, rfl⟩
  have n1 : 1 ≤ n := by rw [hn, tl_e hdr]; omega
  have n2 : k + n ≤ l.length := by rw [hn]; exact tk_1le (by omega)
  have nn : n = 1 + tk (arN x.1) r := by rw [hn]; exact tl_e hdr
  have ar3 := ar_le x.1
  have rq := rR_eq (v := v) ho hdr
  rw [← hn] at rq
  obtain ⟨c, hc⟩ : ∃ c, c = ctL l k := ⟨_, rfl⟩
  rw [← hc] at rq c4 ct cw
  obtain ⟨w, hwv⟩ : ∃ w, w = inL l k := ⟨_, rfl⟩
  rw [← hwv] at ct i1 hW cw
  have a188 : am_pA 0 (.ref 188) (nI k) (fx V I L R ++ tl) = some (nI x.1) := (qa_188 (by omega)).trans (congrArg some hS)
  have a232 : am_pA 0 (.ref 232) (nI k) (fx V I L R ++ tl) = some (nI w) := (qa_232 (by omega)).trans (congrArg some hW)
  have sz : ∀ j, j < l.length → am_pA 0 (.ref 192) (nI j) (fx V I L R ++ tl) = some (nI (tk 1 (l.drop j))) := fun j hj => (qa_192 (by omega)).trans (congrArg some (hT j (by omega) hj))
  have rl : ∀ j, k < j → j < l.length → am_pAL (.ref 231) (nI j) (fx V I L R ++ tl) = some (lN (rR l v j)) := fun j h1 h2 => (qa_231 (by omega)).trans (congrArg some (hL j h1 h2))
  -- the sums behind the lower sorts
  have main : ∀ z, z = clN v k → fg_394_37 N (.ref 174) (nI k) (nI x.1) (nI w) (nI n) (lN z) (fx V I L R ++ tl) = some (.inl (some (.long (lN (rR l v k))), fx V I L R ++ tl)) := fun z hz => by
    unfold fg_394_37
    refine r_394s (z := z) (c := c) hw h4 h5 (by omega) x20 n1 (by omega) ct (fun K0 => ?_) x.1 0 N (by omega) (by omega)
    rw [fg_394_42]
    refine ev_t (nI_le (Nat.le_refl _) (by omega)) (ev_cI (pe_343 _ _) ?_)
    rw [ar_eq x.1 (by omega)]
    by_cases a0 : arN x.1 = 0
    · rw [if_pos a0] at rq
      refine ev_f (fun e => e (by rw [a0]; rfl)) ?_
      rw [rq, hz, Nat.add_comm]
    · rw [if_neg a0] at rq
      have xn : x.1 ≠ 0 := fun e => a0 (by rw [e]; rfl)
      have z0 : z = 0 := hz.trans (hv0 xn)
      obtain ⟨q1, -, -, u0, u0', -⟩ := fm_part ho hdr (p := 0) (by omega)
      rw [tk_0, Nat.add_zero] at q1 u0 u0'
      have v1 : 1 + tk 1 r = 1 + 0 + tk 1 (l.drop (k + 1)) := u0'
      have s1 := sz (k + 1) q1
      rw [show tk 1 (l.drop (k + 1)) = tk 1 r by omega] at s1
      have f1 : 1 ≤ tk 1 r := by omega
      have r1 := rl (k + 1) (by omega) q1
      refine ev_t (fun e => a0 ((nI_eq (b := 0) (by omega) (by omega)).mp e)) (ev_b (a := Value.ref 192) rfl ?_)
      rw [nI_1]
      refine ev_b s1 ?_
      by_cases a1 : arN x.1 = 1
      · rw [if_pos a1] at rq
        rw [a1] at nn
        refine ev_t (nI_le (b := 1) (by omega) (by decide)) ?_
        unfold fg_394_129
        refine r_394o (z := z + sF c n x.1) (c := c) (g := 0) (y0 := 0) (lim := 1) hN hw h4 h5 (by omega) x20 (by omega) ct (by omega) (by omega) (by rw [if_pos (by omega)]) (by omega) (by rw [if_pos (by omega)]) (by omega) (by omega) (fun K1 => ?_) (tk 1 r - 1) 1 N (by omega) (by omega) (by omega)
        rw [fg_394_134]
        refine ev_t (nI_lt (by omega) (by omega)) (ev_t (nI_le (b := 2) (by omega) (by decide)) ?_)
        unfold fg_394_248
        refine ev_t (nI_le (b := 1) (by omega) (by decide)) ?_
        unfold fg_394_277
        rw [nI_1]
        refine ev_b (a := Value.ref 231) rfl (ev_b r1 (ev_t (nI_le (b := 1) (by omega) (by decide)) ?_))
        unfold fg_394_324
        refine ev_t (nI_le (b := 2) (by omega) (by decide)) ?_
        unfold fg_394_350
        rw [Int64.mul_one, Int64.mul_one, lN_add, Int64.add_zero, Int64.add_zero]
        refine congrArg (fun y => some (Sum.inl (some (Value.long (lN y)), fx V I L R ++ tl))) ?_
        have o1 := oS_1 (c := c) (s := x.1) (n := n) (f := tk 1 r) a1 (by omega) (tk 1 r - 1) (Nat.le_refl _)
        show z + sF c n x.1 + oS c x.1 n 0 1 (tk 1 r - 1) + 0 + rR l v (k + 1) = _
        rw [o1, rq]
        omega
      · rw [if_neg a1] at rq
        obtain ⟨q2, -, -, u2, u2', -⟩ := fm_part ho hdr (p := 1) (by omega)
        have v2 : 1 + tk 2 r = 1 + tk 1 r + tk 1 (l.drop (k + 1 + tk 1 r)) := u2'
        have p1 := r_393 (V := V) (I := I) (L := L) (R := R) (tl := tl) (N := N) (P := 1) hN (by omega) hT hdr hF (by omega)
        have s2' := sz (k + 1 + tk 1 r) q2
        rw [show tk 1 (l.drop (k + 1 + tk 1 r)) = tk 2 r - tk 1 r by omega] at s2'
        have r2 := rl (k + 1 + tk 1 r) (by omega) q2
        obtain ⟨f, hf⟩ : ∃ f, f = tk 1 r := ⟨_, rfl⟩
        obtain ⟨g, hg⟩ : ∃ g, g = tk 2 r - tk 1 r := ⟨_, rfl⟩
        have g1 : 1 ≤ g := by omega
        have tl2 := tk_le r 2
        refine ev_f (nI_ge (a := 1) (by omega) (by omega)) (ev_b (a := Value.ref 192) rfl (ev_i rfl (ev_cI p1 (ev_b s2' ?_))))
        unfold fg_394_129
        have kb : pcN c x.1 1 = 2 * pwN w x.1 1 + twN x.1 1 := by unfold pcN; rw [cw]
        have t383 : fm_383 (.ref 174) (nI (pwN w x.1 1)) (nI (twN x.1 1)) (nI (tk 2 r - tk 1 r)) (fx V I L R ++ tl) = some (.inl (some (.long (lN (uT (pcN c x.1 1) (tk 2 r - tk 1 r)))), fx V I L R ++ tl)) := by
          rw [kb]
          exact x_383 h4 (pw_lt (by omega)) (tw_le _ _) (by omega)
        have tail : ∀ (Z H : Nat) (o : Option am_O), fg_394_324 N (.ref 174) (nI k) (nI (arN x.1)) (lN (Z + rR l v (k + 1) * uT (pcN c x.1 1) (tk 2 r - tk 1 r) * H)) (lN (rR l v (k + 1 + tk 1 r) * H)) (fx V I L R ++ tl) = o → fg_394_248 N (.ref 174) (nI k) (nI x.1) (nI w) (lN Z) (nI (arN x.1)) (nI (tk 2 r - tk 1 r)) (lN H) (fx V I L R ++ tl) = o := fun Z H o h => by
          unfold fg_394_248
          refine ev_f (nI_ge (a := 1) (by omega) (by omega)) (ev_cI (pe_381 _ _ _ _) (ev_cI (pe_382 _ _ _) (ev_i rfl ?_)))
          rw [show pv_381 (nI w) (nI x.1) 1 = nI (pwN w x.1 1) from pw_eq w (by omega) x.1 (by omega) 1 (by omega), show pv_382 (nI x.1) 1 = nI (twN x.1 1) from tw_eq x.1 (by omega) 1 (by omega)]
          refine ev_cL t383 ?_
          unfold fg_394_277
          rw [nI_1]
          refine ev_b (a := Value.ref 231) rfl (ev_b r1 (ev_f (nI_ge (a := 1) (by omega) (by omega)) (ev_b (a := Value.ref 231) rfl (ev_i rfl (ev_cI p1 (ev_b r2 ?_))))))
          rw [lN_mul, lN_mul, lN_mul, lN_add]
          exact h
        by_cases a2 : arN x.1 = 2
        · rw [if_pos a2] at rq
          rw [a2] at nn
          refine r_394o (z := z + sF c n x.1) (c := c) (f := tk 1 r) (g := tk 2 r - tk 1 r) (y0 := 1) (lim := n) hN hw h4 h5 (by omega) x20 (by omega) ct (by omega) (by omega) (by rw [if_neg (by omega)]) (by omega) (by rw [if_neg (by omega)]) (by omega) (by omega) (fun K1 => ?_) (tk 1 r - 1) 1 N (by omega) (by omega) (by omega)
          rw [fg_394_134]
          refine ev_t (nI_lt (by omega) (by omega)) (ev_t (nI_le (b := 2) (by omega) (by decide)) ?_)
          refine tail _ 1 _ ?_
          unfold fg_394_324
          refine ev_t (nI_le (b := 2) (by omega) (by decide)) ?_
          unfold fg_394_350
          rw [lN_add, Int64.add_zero]
          refine congrArg (fun y => some (Sum.inl (some (Value.long (lN y)), fx V I L R ++ tl))) ?_
          have o1 := oS_2 (c := c) (s := x.1) (n := n) a2 (tk 1 r - 1) (by omega)
          have o2 := iS_2 (c := c) (s := x.1) (n := n) (x := tk 1 r) a2 (by omega) (tk 2 r - tk 1 r - 1)
          rw [if_neg (by omega)] at o2
          rw [o1, o2, rq, Nat.mul_one, Nat.mul_one]
          omega
        · rw [if_neg a2] at rq
          have a3 : arN x.1 = 3 := by omega
          rw [a3] at nn
          obtain ⟨q3, -, -, u3, u3', -⟩ := fm_part ho hdr (p := 2) (by omega)
          have v3 : 1 + tk 3 r = 1 + tk 2 r + tk 1 (l.drop (k + 1 + tk 2 r)) := u3'
          have p2 := r_393 (V := V) (I := I) (L := L) (R := R) (tl := tl) (N := N) (P := 2) hN (by omega) hT hdr hF (by omega)
          have s3' := sz (k + 1 + tk 2 r) q3
          rw [show tk 1 (l.drop (k + 1 + tk 2 r)) = n - 1 - tk 1 r - (tk 2 r - tk 1 r) by omega] at s3'
          have r3 := rl (k + 1 + tk 2 r) (by omega) q3
          obtain ⟨k1, k2⟩ : twN x.1 2 = twN x.1 1 ∧ x.1 ≠ 19 := by
            have key : ∀ s, s < 21 → arN s = 3 → twN s 2 = twN s 1 ∧ s ≠ 19 := by decide
            exact key x.1 (by omega) a3
          have kc : pcN c x.1 1 = 2 * w + twN x.1 2 := by
            rw [kb, k1]
            unfold pwN
            rw [if_neg (fun e => k2 e.1)]
          refine r_394o (z := z + sF c n x.1) (c := c) (f := tk 1 r) (g := tk 2 r - tk 1 r) (y0 := 1) (lim := n) hN hw h4 h5 (by omega) x20 (by omega) ct (by omega) (by omega) (by rw [if_neg (by omega)]) (by omega) (by rw [if_neg (by omega)]) (by omega) (by omega) (fun K1 => ?_) (tk 1 r - 1) 1 N (by omega) (by omega) (by omega)
          rw [fg_394_134]
          refine ev_t (nI_lt (by omega) (by omega)) (ev_f (nI_ge (a := 2) (by omega) (by omega)) (ev_cI (pe_382 _ _ _) ?_))
          rw [show pv_382 (nI x.1) 2 = nI (twN x.1 2) from tw_eq x.1 (by omega) 2 (by omega)]
          refine ev_b (a := Value.ref 192) rfl (ev_i rfl (ev_cI p2 (ev_b s3' (ev_i rfl (ev_cL (x_383 h4 (by omega) (tw_le _ _) (by omega)) ?_)))))
          rw [← kc]
          refine tail _ _ _ ?_
          unfold fg_394_324
          refine ev_f (nI_ge (a := 2) (by omega) (by omega)) (ev_b (a := Value.ref 231) rfl (ev_i rfl (ev_cI p2 (ev_b r3 ?_))))
          unfold fg_394_350
          rw [lN_add, lN_add]
          refine congrArg (fun y => some (Sum.inl (some (Value.long (lN y)), fx V I L R ++ tl))) ?_
          have o1 := oS_3 (c := c) (s := x.1) (n := n) a3 (tk 1 r - 1) (by omega)
          have o2 := iS_3 (c := c) (s := x.1) (n := n) (x := tk 1 r) a3 (tk 2 r - tk 1 r - 1) (by omega)
          rw [o1, o2, rq, Nat.add_mul]
          omega
  unfold fm_394 fg_394_0
  refine ev_b (a := Value.ref 188) rfl (ev_b a188 (ev_b (a := Value.ref 232) rfl (ev_b a232 (ev_b (a := Value.ref 192) rfl (ev_b (sz k (by omega)) ?_)))))
  rw [← hn]
  by_cases s0 : x.1 = 0
  · refine ev_f (fun e => e (by rw [s0]; rfl)) (ev_b (a := Value.ref 189) rfl (ev_b (a := v k) ((qa_189 (by omega)).trans (congrArg some hV)) ?_))
    rw [hcv s0]
    exact main _ rfl
  · exact ev_t (fun e => s0 ((nI_eq (b := 0) (by omega) (by omega)).mp e)) (main 0 (hv0 s0).symm)
