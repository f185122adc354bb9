/-! ===== the class: of those that are left, and in how many orders ===== -/
set_option maxRecDepth 100000 in
set_option maxHeartbeats 4000000 in
theorem c_225l {V : Nat → Nat → Value} {I : Nat → Nat → Int32} {L : Nat → Nat → Int64} {R : Nat → Nat → Option Nat} {tl : am_H} {N i c s k : Nat} {E : Nat → Nat → Nat} {A : Nat → Bool} {mk : Int32} (hi : i < 4) (hc : c ≤ 16) (hk : k < s) (hs : s ≤ 24) (h0 : V (40 + 9 * i) 0 = .int (nI c)) (h46 : ∀ x, x < c → ∀ r, r < s → I (46 + 9 * i) (24 * x + r) = nI (E x r)) (hE : ∀ x r, E x r ≤ 2000000) (hm : ∀ d, d < 32 → tbi mk d = A d) : ∀ (m p K : Nat) (kp : Int32), p + m = c → m < K → (∀ d, d < 32 → (tbi kp d = true ↔ d < p ∧ A d = true ∧ E d k = mnE (fun x => E x k) A 2000000 p)) → ∃ r, fg_225_9 N K (.ref (40 + 9 * i)) mk (nI k) (nI (mnE (fun x => E x k) A 2000000 p)) kp (nI p) (fx V I L R ++ tl) = some (.inl (some (.int r), fx V I L R ++ tl)) ∧ ∀ d, d < 32 → tbi r d = narE c E A k d := by
  intro m
  induction m with
  | zero =>
    intro p K kp hp hK hkp
    obtain ⟨K, rfl⟩ : ∃ k, K = k + 1 := ⟨K - 1, by omega⟩
    obtain rfl : p = c := by omega
    refine ⟨kp, ?_, fun d hd => Bool.eq_iff_iff.mpr ((hkp d hd).trans narE_t.symm)⟩
    rw [fg_225_9]
    exact ev_b (iv_0 hi h0) (ev_t (nI_le (Nat.le_refl _) (by omega)) rfl)
  | succ m ih =>
    intro p K kp hp hK hkp
    obtain ⟨K, rfl⟩ : ∃ k, K = k + 1 := ⟨K - 1, by omega⟩
    have hpc : p < c := by omega
    have le := hE p k
    have ms := mnE_s (er := fun x => E x k) (A := A) (s := 2000000) p
    have rd : am_pA 0 (.ref (46 + 9 * i)) (nI p * 24 + nI k) (fx V I L R ++ tl) = some (nI (E p k)) := by
      rw [show nI p * 24 + nI k = nI (24 * p + k) by rw [show nI p * 24 = nI (p * 24) from (nI_mul p 24).symm, nI_add, Nat.mul_comm]]
      exact (ia_46 hi (by omega)).trans (by rw [h46 p hpc k hk])
    have st : mnE (fun x => E x k) A 2000000 (p + 1) = (if A p = true ∧ E p k < mnE (fun x => E x k) A 2000000 p then E p k else mnE (fun x => E x k) A 2000000 p) := rfl
    have same : ¬ (A p = true ∧ E p k ≤ mnE (fun x => E x k) A 2000000 p) → ∃ r, fg_225_74 N (fg_225_9 N K) (.ref (40 + 9 * i)) mk (nI k) (nI (mnE (fun x => E x k) A 2000000 p)) kp (nI p) (fx V I L R ++ tl) = some (.inl (some (.int r), fx V I L R ++ tl)) ∧ ∀ d, d < 32 → tbi r d = narE c E A k d := fun hn => by
      rw [if_neg (fun q => hn ⟨q.1, by omega⟩)] at st
      obtain ⟨r, h1, h2⟩ := ih (p + 1) K kp (by omega) (by omega) (fun d hd => (hkp d hd).trans (by
        rw [st]
        constructor
        · rintro ⟨q1, q2, q3⟩; exact ⟨by omega, q2, q3⟩
        · rintro ⟨q1, q2, q3⟩
          refine ⟨?_, q2, q3⟩
          by_cases e : d = p
          · subst e; exact absurd ⟨q2, by omega⟩ hn
          · omega))
      refine ⟨r, ?_, h2⟩
      unfold fg_225_74
      rw [nI_1, ← st]
      exact h1
    rw [fg_225_9]
    by_cases a : A p = true
    case neg =>
      obtain ⟨r, h1, h2⟩ := same (fun q => a q.1)
      refine ⟨r, ?_, h2⟩
      refine ev_b (iv_0 hi h0) (ev_f (nI_ge (by omega) (by omega)) (ev_b (ir_7 hi) (ev_b rd (ev_t ?_ h1))))
      rw [tbi_v (by omega), hm p (by omega), if_neg a]
      decide
    have b1 : ¬ ¬ ((mk >>> (nI p &&& 31)) &&& 1) = 1 := fun q => q (by rw [tbi_v (by omega), hm p (by omega), if_pos a])
    by_cases c1 : mnE (fun x => E x k) A 2000000 p < E p k
    · obtain ⟨r, h1, h2⟩ := same (fun q => by omega)
      exact ⟨r, ev_b (iv_0 hi h0) (ev_f (nI_ge (by omega) (by omega)) (ev_b (ir_7 hi) (ev_b rd (ev_f b1 (ev_t (nI_lt c1 (by omega)) h1))))), h2⟩
    by_cases c2 : mnE (fun x => E x k) A 2000000 p ≤ E p k
    · have eq : E p k = mnE (fun x => E x k) A 2000000 p := by omega
      rw [if_neg (fun q => by omega)] at st
      obtain ⟨r, h1, h2⟩ := ih (p + 1) K (kp ||| (1 <<< (nI p &&& 31))) (by omega) (by omega) (fun d hd => by
        rw [tbi_o (by omega) hd, Bool.or_eq_true, decide_eq_true_iff, hkp d hd, st]
        constructor
        · rintro (⟨q1, q2, q3⟩ | rfl)
          · exact ⟨by omega, q2, q3⟩
          · exact ⟨by omega, a, eq⟩
        · rintro ⟨q1, q2, q3⟩
          by_cases e : d = p
          · exact .inr e
          · exact .inl ⟨by omega, q2, q3⟩)
      refine ⟨r, ?_, h2⟩
      refine ev_b (iv_0 hi h0) (ev_f (nI_ge (by omega) (by omega)) (ev_b (ir_7 hi) (ev_b rd (ev_f b1 (ev_f (nI_nlt (by omega) (by omega)) (ev_t (nI_le c2 (by omega)) ?_))))))
      unfold fg_225_60 fg_225_74
      rw [nI_1, eq, ← st]
      exact h1
    · rw [if_pos ⟨a, by omega⟩] at st
      obtain ⟨r, h1, h2⟩ := ih (p + 1) K ((0 : Int32) ||| (1 <<< (nI p &&& 31))) (by omega) (by omega) (fun d hd => by
        rw [tbi_o (by omega) hd, Bool.or_eq_true, decide_eq_true_iff, tbi_0, st]
        constructor
        · rintro (q | rfl)
          · exact absurd q (by decide)
          · exact ⟨by omega, a, rfl⟩
        · rintro ⟨q1, q2, q3⟩
          by_cases e : d = p
          · exact .inr e
          · have := mnE_le (er := fun x => E x k) (A := A) (s := 2000000) p d (by omega) q2
            have t : E d k = E p k := q3
            have t2 : mnE (fun x => E x k) A 2000000 p ≤ E d k := this
            omega)
      refine ⟨r, ?_, h2⟩
      refine ev_b (iv_0 hi h0) (ev_f (nI_ge (by omega) (by omega)) (ev_b (ir_7 hi) (ev_b rd (ev_f b1 (ev_f (nI_nlt (by omega) (by omega)) (ev_f (nI_ge (by omega) (by omega)) ?_))))))
      unfold fg_225_60 fg_225_74
      rw [nI_1, ← st]
      exact h1
set_option maxRecDepth 100000 in
set_option maxHeartbeats 4000000 in
theorem c_225 {V : Nat → Nat → Value} {I : Nat → Nat → Int32} {L : Nat → Nat → Int64} {R : Nat → Nat → Option Nat} {tl : am_H} {N i c s k : Nat} {E : Nat → Nat → Nat} {A : Nat → Bool} {mk : Int32} (hN : 100 < N) (hi : i < 4) (hc : c ≤ 16) (hk : k < s) (hs : s ≤ 24) (h0 : V (40 + 9 * i) 0 = .int (nI c)) (h46 : ∀ x, x < c → ∀ r, r < s → I (46 + 9 * i) (24 * x + r) = nI (E x r)) (hE : ∀ x r, E x r ≤ 2000000) (hm : ∀ d, d < 32 → tbi mk d = A d) : ∃ r, fm_225 N (.ref (40 + 9 * i)) mk (nI k) (fx V I L R ++ tl) = some (.inl (some (.int r), fx V I L R ++ tl)) ∧ ∀ d, d < 32 → tbi r d = narE c E A k d := by
  unfold fm_225 fg_225_0
  exact c_225l hi hc hk hs h0 h46 hE hm c 0 N 0 (by omega) (by omega) (fun d _ => by
    rw [tbi_0]
    exact ⟨fun q => absurd q (by decide), fun q => absurd q.1 (by omega)⟩)
set_option maxRecDepth 100000 in
set_option maxHeartbeats 4000000 in
theorem c_226l {V : Nat → Nat → Value} {I : Nat → Nat → Int32} {L : Nat → Nat → Int64} {R : Nat → Nat → Option Nat} {tl : am_H} {N i c : Nat} {A : Nat → Bool} {mk : Int32} (hi : i < 4) (hc : c ≤ 16) (h0 : V (40 + 9 * i) 0 = .int (nI c)) (hm : ∀ d, d < 32 → tbi mk d = A d) : ∀ (m p K : Nat), p + m = c → m < K → fg_226_2 N K (.ref (40 + 9 * i)) mk (nI p) (fx V I L R ++ tl) = some (.inl (some (.int (nI (lsF A m p))), fx V I L R ++ tl)) := by
  intro m
  induction m with
  | zero =>
    intro p K hp hK
    obtain ⟨K, rfl⟩ : ∃ k, K = k + 1 := ⟨K - 1, by omega⟩
    rw [fg_226_2]
    exact ev_b (iv_0 hi h0) (ev_t (nI_le (by omega) (by omega)) rfl)
  | succ m ih =>
    intro p K hp hK
    obtain ⟨K, rfl⟩ : ∃ k, K = k + 1 := ⟨K - 1, by omega⟩
    rw [fg_226_2, lsF]
    refine ev_b (iv_0 hi h0) (ev_f (nI_ge (by omega) (by omega)) ?_)
    rw [tbi_v (by omega), hm p (by omega)]
    by_cases a : A p = true
    · rw [if_pos a, if_pos a]
      exact ev_t (by decide) rfl
    · rw [if_neg a, if_neg a]
      refine ev_f (fun q => q rfl) ?_
      rw [nI_1]
      exact ih (p + 1) K (by omega) (by omega)
set_option maxRecDepth 100000 in
set_option maxHeartbeats 4000000 in
theorem c_226 {V : Nat → Nat → Value} {I : Nat → Nat → Int32} {L : Nat → Nat → Int64} {R : Nat → Nat → Option Nat} {tl : am_H} {N i c : Nat} {A : Nat → Bool} {mk : Int32} (hN : 100 < N) (hi : i < 4) (hc : c ≤ 16) (h0 : V (40 + 9 * i) 0 = .int (nI c)) (hm : ∀ d, d < 32 → tbi mk d = A d) : fm_226 N (.ref (40 + 9 * i)) mk (fx V I L R ++ tl) = some (.inl (some (.int (nI (lsF A c 0))), fx V I L R ++ tl)) := by
  unfold fm_226 fg_226_0
  exact c_226l hi hc h0 hm c 0 N (by omega) (by omega)
theorem c_243l {N q : Nat} {h : am_H} (hq : q ≤ 24) : ∀ (m p K : Nat), p + 1 + m = q + 1 → 1 ≤ p → m < K → fg_243_4 N K (nI q) (nI (fct p)) (nI (p + 1)) h = some (.inl (some (.int (nI (fct q))), h)) := by
  intro m
  induction m with
  | zero =>
    intro p K hp h1 hK
    obtain ⟨K, rfl⟩ : ∃ k, K = k + 1 := ⟨K - 1, by omega⟩
    obtain rfl : p = q := by omega
    rw [fg_243_4]
    exact ev_t (nI_lt (by omega) (by omega)) rfl
  | succ m ih =>
    intro p K hp h1 hK
    obtain ⟨K, rfl⟩ : ∃ k, K = k + 1 := ⟨K - 1, by omega⟩
    rw [fg_243_4]
    refine ev_f (nI_nlt (by omega) (by omega)) ?_
    rw [nI_1, ← nI_mul, Nat.mul_comm]
    exact ih (p + 1) K (by omega) (by omega) (by omega)
theorem c_243 {N q : Nat} {h : am_H} (hN : 100 < N) (hq : q ≤ 24) : fm_243 N (nI q) h = some (.inl (some (.int (nI (fct q))), h)) := by
  unfold fm_243 fg_243_0
  by_cases c : q = 0
  · subst c
    obtain ⟨K, e⟩ : ∃ k, N = k + 1 := ⟨N - 1, by omega⟩
    rw [e, fg_243_4]
    exact ev_t (by decide) rfl
  · exact c_243l hq (q - 1) 1 N (by omega) (by omega) (by omega)
theorem pc_tb : ∀ C, C < 64 → ∀ k, k < 6 → C.testBit k = true → ∀ j, j < 6 → (C - 2 ^ k).testBit j = true → C.testBit j = true := by decide +kernel
theorem pm_0 (f : Nat) : pmM f 0 = [[]] := by
  cases f with
  | zero => rfl
  | succ f => rfl
theorem cnt_fd {c pl : Nat} {E : Nat → Nat → Nat} {A : Nat → Bool} {L : List (List Nat)} (h : ∀ l, l ∈ L → fdE c E A l = A) : L.countP (fun l => decide (lsF (fdE c E A l) c 0 = pl)) = if lsF A c 0 = pl then L.length else 0 := by
  by_cases e : lsF A c 0 = pl
  · rw [if_pos e]
    exact List.countP_eq_length.mpr (fun l hl => by rw [h l hl]; exact decide_eq_true e)
  · rw [if_neg e]
    exact List.countP_eq_zero.mpr (fun l hl => by rw [h l hl]; exact fun q => e (of_decide_eq_true q))
theorem cnt_no {c pl : Nat} {E : Nat → Nat → Nat} {A : Nat → Bool} {L : List (List Nat)} (hp : pl < c) (h : ¬ A pl = true) : L.countP (fun l => decide (lsF (fdE c E A l) c 0 = pl)) = 0 := by
  refine List.countP_eq_zero.mpr (fun l hl q => h ?_)
  have e := of_decide_eq_true q
  have := lsF_at (A := fdE c E A l) c 0 (by rw [e]; omega)
  rw [e] at this
  exact fdE_sub l A pl this
set_option maxRecDepth 100000 in
set_option maxHeartbeats 4000000 in
theorem c_241 {V : Nat → Nat → Value} {I : Nat → Nat → Int32} {L : Nat → Nat → Int64} {R : Nat → Nat → Option Nat} {tl : am_H} {N i c s pl : Nat} {E : Nat → Nat → Nat} (hN : 100 < N) (hi : i < 4) (hc : c ≤ 16) (hs : s ≤ 6) (hpl : pl < c) (h0 : V (40 + 9 * i) 0 = .int (nI c)) (h46 : ∀ x, x < c → ∀ r, r < s → I (46 + 9 * i) (24 * x + r) = nI (E x r)) (hE : ∀ x r, E x r ≤ 2000000) : ∀ (f K C : Nat) (mk : Int32) (A : Nat → Bool), C < 64 → (∀ k, k < 6 → C.testBit k = true → k < s) → pc6 C ≤ f → f < K → f < 7 → (∀ d, d < 32 → tbi mk d = A d) → (∀ d, A d = true → d < c) → gr_241 N K 241 [.ref (40 + 9 * i), .int mk, .int (nI C), .int (nI pl)] (fx V I L R ++ tl) = some (.inl (some (.int (nI ((pmM f C).countP (fun l => decide (lsF (fdE c E A l) c 0 = pl))))), fx V I L R ++ tl)) := by
  have stop : ∀ (f C : Nat) (mk : Int32) (A : Nat → Bool) (rc : Value → Int32 → Int32 → Int32 → am_H → Option am_O), C < 64 → pc6 C ≤ f → f < 7 → (∀ d, d < 32 → tbi mk d = A d) → (∀ l, l ∈ pmM f C → fdE c E A l = A) → fg_241_22 N rc (.ref (40 + 9 * i)) mk (nI C) (nI pl) (fx V I L R ++ tl) = some (.inl (some (.int (nI ((pmM f C).countP (fun l => decide (lsF (fdE c E A l) c 0 = pl))))), fx V I L R ++ tl)) := fun f C mk A rc hC hf hf7 hm hfd => by
    rw [cnt_fd hfd]
    have lt : lsF A c 0 ≤ c := by
      have key : ∀ m p, lsF A m p ≤ p + m := by
        intro m
        induction m with
        | zero => intro p; exact Nat.le_refl _
        | succ m ih =>
          intro p
          rw [lsF]
          by_cases a : A p = true
          · rw [if_pos a]; omega
          · rw [if_neg a]; have := ih (p + 1); omega
      have := key c 0
      omega
    unfold fg_241_22
    refine ev_i (io_1 hi) (ev_cI (c_226 hN hi hc h0 hm) ?_)
    by_cases e : lsF A c 0 = pl
    · rw [if_pos e, pm_len f hf7 C hC hf]
      refine ev_f (fun q => q (by rw [e])) (ev_cI (c_242 _ _) ?_)
      rw [pcI_6 C hC]
      exact ev_cI (c_243 hN (by have := pc_6 C hC; omega)) rfl
    · rw [if_neg e]
      exact ev_t (fun q => e ((nI_eq (by omega) (by omega)).mp q)) rfl
  intro f
  induction f with
  | zero =>
    intro K C mk A hC hCs hf hK hf7 hm hA
    obtain ⟨K, rfl⟩ : ∃ k, K = k + 1 := ⟨K - 1, by omega⟩
    obtain rfl := pc_0 C hC (by omega)
    show fg_241_0 N _ (.ref (40 + 9 * i)) mk (nI 0) (nI pl) (fx V I L R ++ tl) = _
    unfold fg_241_0
    rw [tbi_v (by omega), hm pl (by omega)]
    by_cases a : A pl = true
    · rw [if_pos a]
      exact ev_t (by decide) (ev_t rfl (stop 0 0 mk A _ hC hf hf7 hm (fun l hl => by
        rw [pm_0, List.mem_singleton] at hl
        subst hl
        rfl)))
    · rw [if_neg a, cnt_no hpl a]
      exact ev_f (fun q => q rfl) rfl
  | succ f ih =>
    intro K C mk A hC hCs hf hK hf7 hm hA
    obtain ⟨K, rfl⟩ : ∃ k, K = k + 1 := ⟨K - 1, by omega⟩
    show fg_241_0 N (fun y0 y1 y2 y3 h => gr_241 N K 241 [y0, .int y1, .int y2, .int y3] h) (.ref (40 + 9 * i)) mk (nI C) (nI pl) (fx V I L R ++ tl) = _
    unfold fg_241_0
    rw [tbi_v (by omega), hm pl (by omega)]
    by_cases a : A pl = true
    case neg =>
      rw [if_neg a, cnt_no hpl a]
      exact ev_f (fun q => q rfl) rfl
    rw [if_pos a]
    refine ev_t (by decide) ?_
    by_cases c0 : C = 0
    · subst c0
      exact ev_t rfl (stop (f + 1) 0 mk A _ hC hf hf7 hm (fun l hl => by
        rw [pm_0, List.mem_singleton] at hl
        subst hl
        rfl))
    refine ev_f (fun q => c0 ((nI_eq (b := 0) (by omega) (by omega)).mp q)) (ev_cI (c_242 _ _) ?_)
    by_cases p1 : pcI mk = 1
    · exact ev_f (fun q => q p1) (stop (f + 1) C mk A _ hC hf hf7 hm (fun l hl => fdE_1 hA (pc_one hm (fun d hd => by have := hA d hd; omega) p1) l (fun k _ x _ => hE x k)))
    refine ev_t p1 ?_
    have loop : ∀ (m k M acc : Nat), k + m = 6 → m < M → fg_241_49 N (fun y0 y1 y2 y3 h => gr_241 N K 241 [y0, .int y1, .int y2, .int y3] h) M (.ref (40 + 9 * i)) mk (nI C) (nI pl) (nI acc) (nI k) (fx V I L R ++ tl) = some (.inl (some (.int (nI (acc + ((List.range' k m).flatMap (fun k => if C.testBit k = true then (pmM f (C - 2 ^ k)).map (fun l => k :: l) else [])).countP (fun l => decide (lsF (fdE c E A l) c 0 = pl))))), fx V I L R ++ tl)) := by
      intro m
      induction m with
      | zero =>
        intro k M acc hk hM
        obtain ⟨M, rfl⟩ : ∃ k, M = k + 1 := ⟨M - 1, by omega⟩
        rw [fg_241_49]
        exact ev_t (nI_le (a := 6) (by omega) (by omega)) rfl
      | succ m ihm =>
        intro k M acc hk hM
        obtain ⟨M, rfl⟩ : ∃ k, M = k + 1 := ⟨M - 1, by omega⟩
        rw [fg_241_49, List.range'_succ, List.flatMap_cons, List.countP_append]
        refine ev_f (nI_ge (b := 6) (by omega) (by omega)) ?_
        rw [tbi_v (by omega), tbi_n k (by omega) C hC]
        by_cases t : C.testBit k = true
        · obtain ⟨t1, t2, t3⟩ := pc_sub C hC k (by omega) t
          obtain ⟨r, r1, r2⟩ := c_225 (V := V) (I := I) (L := L) (R := R) (tl := tl) (k := k) hN hi hc (hCs k (by omega) t) (by omega) h0 h46 hE hm
          have rr := ih K (C - 2 ^ k) r (narE c E A k) t2 (fun j hj q => hCs j hj (pc_tb C hC k (by omega) t j hj q)) (by omega) (by omega) (by omega) r2 (fun d hd => (narE_t.mp hd).1)
          rw [if_pos t, if_pos t, List.countP_map]
          refine ev_f (fun q => q rfl) (ev_i (io_1 hi) (ev_cI r1 (ev_i (io_1 hi) ?_)))
          rw [t3]
          refine ev_cI rr ?_
          unfold fg_241_91
          rw [nI_1, nI_add]
          refine (ihm (k + 1) M _ (by omega) (by omega)).trans ?_
          rw [Nat.add_assoc]
          rfl
        · rw [if_neg t, if_neg t]
          refine ev_t (by decide) ?_
          unfold fg_241_91
          rw [nI_1]
          refine (ihm (k + 1) M acc (by omega) (by omega)).trans ?_
          rw [List.countP_nil, Nat.zero_add]
    refine (loop 6 0 N 0 (by omega) (by omega)).trans ?_
    rw [Nat.zero_add, pmM, if_neg c0]
theorem tb_fl : ∀ s, s < 7 → 2 ^ s - 1 < 64 ∧ (∀ k, k < 6 → (2 ^ s - 1).testBit k = true → k < s) ∧ pc6 (2 ^ s - 1) = s := by decide +kernel
/-- in how many orders a place is chosen -/
def odE (c s pl : Nat) (E : Nat → Nat → Nat) : Nat := (pmM 6 (2 ^ s - 1)).countP (fun l => decide (lsF (fdE c E (fun x => decide (x < c)) l) c 0 = pl))
set_option maxRecDepth 100000 in
set_option maxHeartbeats 4000000 in
theorem c_240 {V : Nat → Nat → Value} {I : Nat → Nat → Int32} {L : Nat → Nat → Int64} {R : Nat → Nat → Option Nat} {tl : am_H} {N i c s pl : Nat} {E : Nat → Nat → Nat} (hN : 100 < N) (hi : i < 4) (hc : c ≤ 16) (hs : s ≤ 6) (hpl : pl < c) (h0 : V (40 + 9 * i) 0 = .int (nI c)) (h3 : V (40 + 9 * i) 3 = .int (nI s)) (h46 : ∀ x, x < c → ∀ r, r < s → I (46 + 9 * i) (24 * x + r) = nI (E x r)) (hE : ∀ x r, E x r ≤ 2000000) : fm_240 N (.ref (40 + 9 * i)) (nI pl) (fx V I L R ++ tl) = some (.inl (some (.int (nI (odE c s pl E))), fx V I L R ++ tl)) := by
  obtain ⟨t1, t2, t3⟩ := tb_fl s (by omega)
  unfold fm_240 fg_240_0
  refine ev_b (iv_0 hi h0) (ev_b (iv_3 hi h3) (ev_i (io_1 hi) ?_))
  rw [fl_6 s (by omega)]
  refine ev_cI (?_ : fm_241 N (.ref (40 + 9 * i)) ((1 <<< (nI c &&& 31)) - 1) (nI (2 ^ s - 1)) (nI pl) (fx V I L R ++ tl) = _) rfl
  exact c_241 hN hi hc hs hpl h0 h46 hE 6 40 (2 ^ s - 1) _ (fun x => decide (x < c)) t1 t2 (by omega) (by omega) (by omega) (tbi_f c (by omega)) (fun d hd => of_decide_eq_true hd)
