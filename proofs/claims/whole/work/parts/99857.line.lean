/-! ===== line, forebear ===== -/
def cnN (A : Nat → Bool) (j : Nat) : Nat := (A j).toNat
theorem cn_end {A : Nat → Bool} {b : Nat} (h1 : A b = true) (h2 : ∀ j, A j = true → j ≤ b) : ∀ m, suN (cnN A) (b + 1 + m) = suN (cnN A) b + 1 := by
  intro m
  induction m with
  | zero =>
    show suN (cnN A) b + cnN A b = _
    unfold cnN
    rw [h1]
    rfl
  | succ m ih =>
    show suN (cnN A) (b + 1 + m) + cnN A (b + 1 + m) = _
    rw [ih]
    have e : cnN A (b + 1 + m) = 0 := by
      unfold cnN
      cases h : A (b + 1 + m) with
      | true => have := h2 _ h; omega
      | false => rfl
    rw [e]
set_option maxRecDepth 100000 in
set_option maxHeartbeats 1600000 in
theorem c_53m {V : Nat → Nat → Value} {I : Nat → Nat → Int32} {L : Nat → Nat → Int64} {R : Nat → Nat → Option Nat} {tl : am_H} {N : Nat} (hN : 1000 < N) : ∃ F, fm_53 N (.ref 171) 0 (fx V I L R ++ tl) = some (.inl (none, fx V (iup I 171 F) L R ++ tl)) ∧ ∀ j, j < 600 → F j = enc (fun _ => false) (fun _ => false) j := by
  refine ⟨filf (I 171) 0 600, e_53 (a := 171) (n := 600) (f := I 171) rfl (by omega) (by omega), fun j hj => ?_⟩
  unfold filf
  rw [if_pos hj]
  rfl
set_option maxRecDepth 100000 in
set_option maxHeartbeats 1600000 in
theorem c_251l {V : Nat → Nat → Value} {I : Nat → Nat → Int32} {L : Nat → Nat → Int64} {R : Nat → Nat → Option Nat} {tl : am_H} {N b : Nat} {A : Nat → Bool} (hb : b < 600) (hF : ∀ j, j < 600 → I 171 j = enc A (fun _ => false) j) : ∀ (m k K : Nat), k + m = b → m < K → fg_251_24 N K (.ref 0) (nI b) (nI (suN (cnN A) k)) (nI k) (fx V I L R ++ tl) = some (.inl (some (.int (nI (suN (cnN A) b))), (fx V I L R ++ tl))) := by
  intro m
  induction m with
  | zero =>
    intro k K hk hK
    obtain ⟨K, rfl⟩ : ∃ k, K = k + 1 := ⟨K - 1, by omega⟩
    obtain rfl : k = b := by omega
    rw [fg_251_24]
    exact ev_t (nI_le (Nat.le_refl _) (by omega)) rfl
  | succ m ih =>
    intro k K hk hK
    obtain ⟨K, rfl⟩ : ∃ k, K = k + 1 := ⟨K - 1, by omega⟩
    rw [fg_251_24]
    refine ev_f (nI_ge (by omega) (by omega)) (ev_b (a := Value.ref 171) rfl (ev_b (a := nI (cnN A k)) ((qa_171 (by omega)).trans (by rw [hF k (by omega)]; unfold enc cnN; rfl)) ?_))
    rw [nI_add, nI_1]
    exact ih (k + 1) K (by omega) (by omega)
set_option maxRecDepth 100000 in
set_option maxHeartbeats 1600000 in
theorem r_527l {V : Nat → Nat → Value} {I : Nat → Nat → Int32} {L : Nat → Nat → Int64} {R : Nat → Nat → Option Nat} {tl : am_H} {N n : Nat} {A : Nat → Bool} (b3 : V 174 1 = .int (nI n)) (b1 : n ≤ 600) (hF : ∀ j, j < n → I 246 j = nI (A j).toNat) : ∀ (m k K : Nat), k + m = n → m < K → fg_527_36 N K (.ref 174) (nI (suN (cnN A) k) + (-1)) (nI k) (fx V I L R ++ tl) = some (.inl (some (.int (nI (suN (cnN A) n) + (-1))), (fx V I L R ++ tl))) := by
  intro m
  induction m with
  | zero =>
    intro k K hk hK
    obtain ⟨K, rfl⟩ : ∃ k, K = k + 1 := ⟨K - 1, by omega⟩
    obtain rfl : k = n := by omega
    rw [fg_527_36]
    exact ev_b (rdI b3) (ev_t (nI_le (Nat.le_refl _) (by omega)) rfl)
  | succ m ih =>
    intro k K hk hK
    obtain ⟨K, rfl⟩ : ∃ k, K = k + 1 := ⟨K - 1, by omega⟩
    have h := ih (k + 1) K (by omega) (by omega)
    rw [fg_527_36]
    cases c : A k with
    | true =>
      have e : suN (cnN A) (k + 1) = suN (cnN A) k + 1 := by
        show _ + cnN A k = _
        unfold cnN
        rw [c]
        rfl
      rw [e] at h
      refine ev_b (rdI b3) (ev_f (nI_ge (by omega) (by omega)) (ev_b (a := Value.ref 246) rfl (ev_b (a := 1) ((qa_246 (by omega)).trans (by rw [hF k (by omega), c]; rfl)) (ev_f (by decide) ?_))))
      unfold fg_527_59
      rw [Int32.add_assoc, Int32.add_comm (-1) 1, ← Int32.add_assoc, nI_1, nI_1]
      exact h
    | false =>
      have e : suN (cnN A) (k + 1) = suN (cnN A) k := by
        show _ + cnN A k = _
        unfold cnN
        rw [c]
        rfl
      rw [e] at h
      refine ev_b (rdI b3) (ev_f (nI_ge (by omega) (by omega)) (ev_b (a := Value.ref 246) rfl (ev_b (a := 0) ((qa_246 (by omega)).trans (by rw [hF k (by omega), c]; rfl)) (ev_t rfl ?_))))
      unfold fg_527_59
      rw [Int32.add_zero, nI_1]
      exact h
theorem keep_i {V : Nat → Nat → Value} {I : Nat → Nat → Int32} {y : Nat} {F : Nat → Int32} (h : ¬ y ∈ iRel) : keep V V I (iup I y F) := ⟨fun _ _ _ => rfl, fun z hz => iup_na (fun e => by subst e; exact h hz), id⟩
/-! line(b) -/
set_option maxRecDepth 100000 in
set_option maxHeartbeats 1600000 in
theorem u_42 {V : Nat → Nat → Value} {I : Nat → Nat → Int32} {L : Nat → Nat → Int64} {R : Nat → Nat → Option Nat} {tl : am_H} {n p j : Nat} (hr : rel V I L R tl n p) (hm : room tl n p j) {N : Nat} (hN : 5000 < N) (a1 : Int32) : ∃ h', opBI (fm_250 N (.ref 0) a1 (.ref 268) (fx V I L R ++ tl)) (fun h1 => fm_527 N (.ref 174) a1 h1) vfI h' ∧ invW (j + 1) h' := by
  obtain ⟨b1, b2, b3⟩ := hr.1
  rcases dich a1 (n := n) (by omega) with hn | ⟨b, hb, rfl⟩
  · refine ⟨_, opBI_err (c := 1) (b := 0) (by decide) (tl := tl ++ [am_dummy]) ?_ ?_, inv_mk (rel_thr 1 (rel_dum hr)) (room_dum hm)⟩
    · have e : fm_251 N (.ref 0) a1 (fx V I L R ++ tl) = some (.inr (2, (fx V I L R ++ (tl ++ [am_dummy])))) := by
        unfold fm_251 fg_251_0
        refine ev_i rfl ?_
        rw [c_63n b2 hn]
        rfl
      unfold fm_250 fg_250_0
      refine ev_i rfl ?_
      rw [e]
      rfl
    · show fm_527 N (.ref 174) a1 (fx V I L R ++ (tl ++ [am_dummy])) = _
      unfold fm_527 fg_527_0
      refine ev_i rfl (ev_cI (r_358n b3 b1 hn) (ev_t rfl ?_))
      unfold fg_527_14
      exact ev_b qp_174_0 (ev_b (a := 1) rfl (ev_f (by decide) rfl))
  · obtain ⟨kd, ln, sz, a, it, lm, f, q1, q2, q3, q4, -⟩ := birth_ld hr hb
    have hP := pd_r hr
    have hP' : ∀ k, k < n → par (I 179 k) k ∧ par (I 180 k) k := fun k hk => (hP k hk).2
    obtain ⟨F1, e1, g1⟩ := c_53m (V := V) (I := I) (L := L) (R := R) (tl := tl) (N := N) (by omega)
    obtain ⟨F2, e2, g2⟩ := c_252m_1 (V := V) (I := iup I 171 F1) (L := L) (R := R) (tl := tl) (N := N) (by omega) b2 b1 hb hP g1
    rw [iup_iup] at e2
    obtain ⟨A, hA⟩ : ∃ A, A = mkR (I 179) (I 180) (b + 1) (adB (fun _ => false) b) := ⟨_, rfl⟩
    rw [← hA] at g2
    have hA1 : A b = true := by
      rw [hA]
      exact mkR_m _ _ (by unfold adB; rw [if_pos rfl])
    have hA2 : ∀ j, A j = true → j ≤ b := fun j hj => by
      rw [hA] at hj
      refine mkR_t (b + 1) _ (by omega) (by omega) (fun i hi => hP' i (by omega)) (fun j hj => ?_) j hj
      unfold adB at hj
      by_cases c : j = b
      · omega
      · rw [if_neg c] at hj; cases hj
    have e3 := c_251l (V := V) (I := iup I 171 F2) (L := L) (R := R) (tl := tl) (N := N) (b := b) (A := A) (by omega) g2 b 0 N (by omega) (by omega)
    obtain ⟨F4, e4, g4⟩ := r_528_0 (V := vup V 174 0 (.int 0)) (I := iup I 171 F2) (L := outL L (nI (suN (cnN A) b)).toInt64) (R := R) (tl := tl) (fa := I 179) (fb := I 180) (N := N) (n := n) (b := b) (by omega) ((vup_nj (by decide)).trans b3) b1 hb (iup_na (by decide)) (iup_na (by decide)) hP'
    rw [← hA] at g4
    have e5 := r_527l (V := vup V 174 0 (.int 0)) (I := iup (iup I 171 F2) 246 F4) (L := outL L (nI (suN (cnN A) b)).toInt64) (R := R) (tl := tl) (N := N) (n := n) (A := A) ((vup_nj (by decide)).trans b3) b1 (fun j hj => g4 j hj) n 0 N (by omega) (by omega)
    obtain ⟨d, rfl⟩ : ∃ d, n = b + 1 + d := ⟨n - (b + 1), by omega⟩
    rw [cn_end hA1 hA2 d, nI_m1] at e5
    have mm : (nI 0 + -1 : Int32) = -1 := by decide
    rw [show suN (cnN A) 0 = 0 from rfl, mm] at e5
    refine ⟨_, opBI_g (v := nI (suN (cnN A) b)) (W := V) (J := iup I 171 F2) (M := outL L (nI (suN (cnN A) b)).toInt64) (R1 := R) (t1 := tl) (W' := vup V 174 0 (.int 0)) (J' := iup (iup I 171 F2) 246 F4) (M' := outL L (nI (suN (cnN A) b)).toInt64) (R2 := R) (t2 := tl) ?_ ?_ vup_eq outL_at, inv_mk (rel_ol _ (rel_k (keep_t keep_0 (keep_t (keep_i (by decide)) (keep_i (by decide)))) hr)) (room_up hm)⟩
    · have e : fm_251 N (.ref 0) (nI b) (fx V I L R ++ tl) = some (.inl (some (.int (nI (suN (cnN A) b))), fx V (iup I 171 F2) L R ++ tl)) := by
        unfold fm_251 fg_251_0
        exact ev_i rfl (ev_cR (c_63 b2 b1 hb q4) rfl (ev_b (a := Value.ref 171) rfl (ev_cV e1 (ev_i rfl (ev_cV e2 e3)))))
      unfold fm_250 fg_250_0
      refine ev_i rfl ?_
      rw [e]
      exact ev_b out_s rfl
    · show fm_527 N (.ref 174) (nI b) (fx V (iup I 171 F2) (outL L (nI (suN (cnN A) b)).toInt64) R ++ tl) = _
      unfold fm_527 fg_527_0
      refine ev_i rfl (ev_cI (r_358 b3 b1 hb) (ev_f (by decide) ?_))
      unfold fg_527_14
      exact ev_b qp_174_0 (ev_b (a := 0) rfl (ev_t (by decide) (ev_i rfl (ev_cV e4 e5))))
/-- the greatest below k that has it -/
def fnd (P : Nat → Bool) : Nat → Int32
  | 0 => -1
  | k + 1 => if P k = true then nI k else fnd P k
theorem fnd_end {P : Nat → Bool} {b : Nat} (h : ∀ j, P j = true → j ≤ b) : ∀ m, fnd P (b + 1 + m) = fnd P (b + 1) := by
  intro m
  induction m with
  | zero => rfl
  | succ m ih =>
    show (if P (b + 1 + m) = true then nI (b + 1 + m) else fnd P (b + 1 + m)) = _
    rw [if_neg (fun e => by have := h _ e; omega), ih]
def boB (A B : Nat → Bool) (j : Nat) : Bool := A j && B j
set_option maxRecDepth 100000 in
set_option maxHeartbeats 1600000 in
theorem c_255l {V : Nat → Nat → Value} {I : Nat → Nat → Int32} {L : Nat → Nat → Int64} {R : Nat → Nat → Option Nat} {tl : am_H} {N : Nat} {A B : Nat → Bool} (hF : ∀ j, j < 600 → I 171 j = enc A B j) : ∀ (k K : Nat), k ≤ 600 → k < K → fg_255_38 N K (.ref 0) (nI k + (-1)) (fx V I L R ++ tl) = some (.inl (some (.int (fnd (boB A B) k)), (fx V I L R ++ tl))) := by
  intro k
  induction k with
  | zero =>
    intro K hk hK
    obtain ⟨K, rfl⟩ : ∃ k, K = k + 1 := ⟨K - 1, by omega⟩
    rw [fg_255_38]
    exact ev_t (by decide) rfl
  | succ k ih =>
    intro K hk hK
    obtain ⟨K, rfl⟩ : ∃ k, K = k + 1 := ⟨K - 1, by omega⟩
    have e3 := enc_3 A B k
    rw [nI_m1, fg_255_38, fnd]
    refine ev_f (nI_pos (by omega)) (ev_b (a := Value.ref 171) rfl (ev_b (a := enc A B k) ((qa_171 (by omega)).trans (by rw [hF k (by omega)])) ?_))
    by_cases c : boB A B k = true
    · have c' : A k = true ∧ B k = true := by
        unfold boB at c
        exact Bool.and_eq_true_iff.mp c
      rw [if_pos c]
      exact ev_f (fun e => e (e3.mpr c')) rfl
    · rw [if_neg c]
      exact ev_t (fun e => c (Bool.and_eq_true_iff.mpr (e3.mp e))) (ih K (by omega) (by omega))
set_option maxRecDepth 100000 in
set_option maxHeartbeats 1600000 in
theorem r_530l {V : Nat → Nat → Value} {I : Nat → Nat → Int32} {L : Nat → Nat → Int64} {R : Nat → Nat → Option Nat} {tl : am_H} {N n : Nat} {A B : Nat → Bool} (b3 : V 174 1 = .int (nI n)) (b1 : n ≤ 600) (hF : ∀ j, j < n → I 246 j = nI (A j).toNat) (hG : ∀ j, j < n → I 247 j = nI (B j).toNat) : ∀ (m k K : Nat), k + m = n → m < K → fg_530_51 N K (.ref 174) (fnd (boB A B) k) (nI k) (fx V I L R ++ tl) = some (.inl (some (.int (fnd (boB A B) n)), (fx V I L R ++ tl))) := by
  intro m
  induction m with
  | zero =>
    intro k K hk hK
    obtain ⟨K, rfl⟩ : ∃ k, K = k + 1 := ⟨K - 1, by omega⟩
    obtain rfl : k = n := by omega
    rw [fg_530_51]
    exact ev_b (rdI b3) (ev_t (nI_le (Nat.le_refl _) (by omega)) rfl)
  | succ m ih =>
    intro k K hk hK
    obtain ⟨K, rfl⟩ : ∃ k, K = k + 1 := ⟨K - 1, by omega⟩
    have h := ih (k + 1) K (by omega) (by omega)
    rw [fnd] at h
    rw [fg_530_51]
    cases c : A k with
    | false =>
      rw [if_neg (by unfold boB; rw [c]; exact fun e => by cases e)] at h
      refine ev_b (rdI b3) (ev_f (nI_ge (by omega) (by omega)) (ev_b (a := Value.ref 246) rfl (ev_b (a := 0) ((qa_246 (by omega)).trans (by rw [hF k (by omega), c]; rfl)) (ev_t rfl ?_))))
      unfold fg_530_85 fg_530_86
      rw [nI_1]
      exact h
    | true =>
      refine ev_b (rdI b3) (ev_f (nI_ge (by omega) (by omega)) (ev_b (a := Value.ref 246) rfl (ev_b (a := 1) ((qa_246 (by omega)).trans (by rw [hF k (by omega), c]; rfl)) (ev_f (by decide) (ev_b (a := Value.ref 247) rfl ?_)))))
      cases d : B k with
      | false =>
        rw [if_neg (by unfold boB; rw [c, d]; decide)] at h
        refine ev_b (a := 0) ((qa_247 (by omega)).trans (by rw [hG k (by omega), d]; rfl)) (ev_t rfl ?_)
        unfold fg_530_85 fg_530_86
        rw [nI_1]
        exact h
      | true =>
        rw [if_pos (by unfold boB; rw [c, d]; decide)] at h
        refine ev_b (a := 1) ((qa_247 (by omega)).trans (by rw [hG k (by omega), d]; rfl)) (ev_f (by decide) ?_)
        unfold fg_530_86
        rw [nI_1]
        exact h
theorem minI {a b : Nat} (ha : a < 2 ^ 31) (hb : b < 2 ^ 31) : pv_38 (nI a) (nI b) = nI (min a b) := by
  unfold pv_38
  by_cases c : b < a
  · rw [if_pos (nI_lt c ha), Nat.min_eq_right (by omega)]
  · rw [if_neg (nI_nlt (by omega) hb), Nat.min_eq_left (by omega)]
/-! forebear(a, b) -/
set_option maxRecDepth 100000 in
set_option maxHeartbeats 1600000 in
theorem u_43 {V : Nat → Nat → Value} {I : Nat → Nat → Int32} {L : Nat → Nat → Int64} {R : Nat → Nat → Option Nat} {tl : am_H} {n p j : Nat} (hr : rel V I L R tl n p) (hm : room tl n p j) {N : Nat} (hN : 5000 < N) (a1 a2 : Int32) : ∃ h', opBI (fm_254 N (.ref 0) a1 a2 (.ref 268) (fx V I L R ++ tl)) (fun h1 => fm_530 N (.ref 174) a1 a2 h1) vfI h' ∧ invW (j + 1) h' := by
  obtain ⟨b1, b2, b3⟩ := hr.1
  rcases dich a1 (n := n) (by omega) with hn | ⟨b, hb, rfl⟩
  · refine ⟨_, opBI_err (c := 1) (b := 0) (by decide) (tl := tl ++ [am_dummy]) ?_ ?_, inv_mk (rel_thr 1 (rel_dum hr)) (room_dum hm)⟩
    · have e : fm_255 N (.ref 0) a1 a2 (fx V I L R ++ tl) = some (.inr (2, (fx V I L R ++ (tl ++ [am_dummy])))) := by
        unfold fm_255 fg_255_0
        refine ev_i rfl ?_
        rw [c_63n b2 hn]
        rfl
      unfold fm_254 fg_254_0
      refine ev_i rfl ?_
      rw [e]
      rfl
    · show fm_530 N (.ref 174) a1 a2 (fx V I L R ++ (tl ++ [am_dummy])) = _
      unfold fm_530 fg_530_0
      refine ev_i rfl (ev_cI (r_358n b3 b1 hn) (ev_t rfl ?_))
      unfold fg_530_21 fg_530_22
      exact ev_b qp_174_0 (ev_b (a := 1) rfl (ev_f (by decide) rfl))
  · obtain ⟨kd, ln, sz, a, it, lm, f, q1, q2, q3, q4, -⟩ := birth_ld hr hb
    rcases dich a2 (n := n) (by omega) with hn | ⟨c, hc, rfl⟩
    · refine ⟨_, opBI_err (c := 1) (b := 0) (by decide) (tl := tl ++ [am_dummy]) ?_ ?_, inv_mk (rel_thr 1 (rel_dum hr)) (room_dum hm)⟩
      · have e : fm_255 N (.ref 0) (nI b) a2 (fx V I L R ++ tl) = some (.inr (2, (fx V I L R ++ (tl ++ [am_dummy])))) := by
          unfold fm_255 fg_255_0
          refine ev_i rfl (ev_cR (c_63 b2 b1 hb q4) rfl (ev_i rfl ?_))
          rw [c_63n b2 hn]
          rfl
        unfold fm_254 fg_254_0
        refine ev_i rfl ?_
        rw [e]
        rfl
      · show fm_530 N (.ref 174) (nI b) a2 (fx V I L R ++ (tl ++ [am_dummy])) = _
        unfold fm_530 fg_530_0
        refine ev_i rfl (ev_cI (r_358 b3 b1 hb) (ev_f (by decide) (ev_i rfl (ev_cI (r_358n b3 b1 hn) (ev_t rfl ?_)))))
        unfold fg_530_21 fg_530_22
        exact ev_b qp_174_0 (ev_b (a := 1) rfl (ev_f (by decide) rfl))
    · obtain ⟨kd', ln', sz', a', it', lm', f', r1, r2, r3, r4, -⟩ := birth_ld hr hc
      have hP := pd_r hr
      have hP' : ∀ k, k < n → par (I 179 k) k ∧ par (I 180 k) k := fun k hk => (hP k hk).2
      obtain ⟨F1, e1, g1⟩ := c_53m (V := V) (I := I) (L := L) (R := R) (tl := tl) (N := N) (by omega)
      obtain ⟨F2, e2, g2⟩ := c_252m_1 (V := V) (I := iup I 171 F1) (L := L) (R := R) (tl := tl) (N := N) (by omega) b2 b1 hb hP g1
      rw [iup_iup] at e2
      obtain ⟨F3, e3, g3⟩ := c_252m_2 (V := V) (I := iup I 171 F2) (L := L) (R := R) (tl := tl) (N := N) (by omega) b2 b1 hc hP g2
      rw [iup_iup] at e3
      obtain ⟨A, hA⟩ : ∃ A, A = mkR (I 179) (I 180) (b + 1) (adB (fun _ => false) b) := ⟨_, rfl⟩
      obtain ⟨B, hB⟩ : ∃ B, B = mkR (I 179) (I 180) (c + 1) (adB (fun _ => false) c) := ⟨_, rfl⟩
      rw [← hA, ← hB] at g3
      have key : ∀ (q : Nat), q < n → ∀ j, mkR (I 179) (I 180) (q + 1) (adB (fun _ => false) q) j = true → j ≤ q := fun q hq j hj => by
        refine mkR_t (q + 1) _ (by omega) (by omega) (fun i hi => hP' i (by omega)) (fun j hj => ?_) j hj
        unfold adB at hj
        by_cases c : j = q
        · omega
        · rw [if_neg c] at hj; cases hj
      have hAB : ∀ j, boB A B j = true → j ≤ min b c := fun j hj => by
        obtain ⟨x1, x2⟩ := Bool.and_eq_true_iff.mp hj
        rw [hA] at x1
        rw [hB] at x2
        have y1 := key b hb j x1
        have y2 := key c hc j x2
        omega
      have e4 := c_255l (V := V) (I := iup I 171 F3) (L := L) (R := R) (tl := tl) (N := N) g3 (min b c + 1) N (by omega) (by omega)
      rw [nI_m1] at e4
      obtain ⟨v, hv⟩ : ∃ v, v = fnd (boB A B) (min b c + 1) := ⟨_, rfl⟩
      rw [← hv] at e4
      obtain ⟨F4, e5, g4⟩ := r_528_0 (V := vup V 174 0 (.int 0)) (I := iup I 171 F3) (L := outL L v.toInt64) (R := R) (tl := tl) (fa := I 179) (fb := I 180) (N := N) (n := n) (b := b) (by omega) ((vup_nj (by decide)).trans b3) b1 hb (iup_na (by decide)) (iup_na (by decide)) hP'
      obtain ⟨F5, e6, g5⟩ := r_528_1 (V := vup V 174 0 (.int 0)) (I := iup (iup I 171 F3) 246 F4) (L := outL L v.toInt64) (R := R) (tl := tl) (fa := I 179) (fb := I 180) (N := N) (n := n) (b := c) (by omega) ((vup_nj (by decide)).trans b3) b1 hc ((iup_na (by decide)).trans (iup_na (by decide))) ((iup_na (by decide)).trans (iup_na (by decide))) hP'
      rw [← hA] at g4
      rw [← hB] at g5
      have e7 := r_530l (V := vup V 174 0 (.int 0)) (I := iup (iup (iup I 171 F3) 246 F4) 247 F5) (L := outL L v.toInt64) (R := R) (tl := tl) (N := N) (n := n) (A := A) (B := B) ((vup_nj (by decide)).trans b3) b1 (fun j hj => g4 j hj) (fun j hj => g5 j hj) n 0 N (by omega) (by omega)
      have ev : fnd (boB A B) n = v := by
        rw [hv, show n = min b c + 1 + (n - (min b c + 1)) by omega]
        exact fnd_end hAB _
      rw [ev] at e7
      refine ⟨_, opBI_g (v := v) (W := V) (J := iup I 171 F3) (M := outL L v.toInt64) (R1 := R) (t1 := tl) (W' := vup V 174 0 (.int 0)) (J' := iup (iup (iup I 171 F3) 246 F4) 247 F5) (M' := outL L v.toInt64) (R2 := R) (t2 := tl) ?_ ?_ vup_eq outL_at, inv_mk (rel_ol _ (rel_k (keep_t keep_0 (keep_t (keep_i (by decide)) (keep_t (keep_i (by decide)) (keep_i (by decide))))) hr)) (room_up hm)⟩
      · have e : fm_255 N (.ref 0) (nI b) (nI c) (fx V I L R ++ tl) = some (.inl (some (.int v), fx V (iup I 171 F3) L R ++ tl)) := by
          unfold fm_255 fg_255_0
          refine ev_i rfl (ev_cR (c_63 b2 b1 hb q4) rfl (ev_i rfl (ev_cR (c_63 b2 b1 hc r4) rfl (ev_b (a := Value.ref 171) rfl (ev_cV e1 (ev_i rfl (ev_cV e2 (ev_i rfl (ev_cV e3 (ev_cI (pe_38 _ _ _) ?_))))))))))
          rw [minI (by omega) (by omega)]
          exact e4
        unfold fm_254 fg_254_0
        refine ev_i rfl ?_
        rw [e]
        exact ev_b out_s rfl
      · show fm_530 N (.ref 174) (nI b) (nI c) (fx V (iup I 171 F3) (outL L v.toInt64) R ++ tl) = _
        unfold fm_530 fg_530_0
        refine ev_i rfl (ev_cI (r_358 b3 b1 hb) (ev_f (by decide) (ev_i rfl (ev_cI (r_358 b3 b1 hc) (ev_f (by decide) ?_)))))
        unfold fg_530_22
        exact ev_b qp_174_0 (ev_b (a := 0) rfl (ev_t (by decide) (ev_i rfl (ev_cV e5 (ev_i rfl (ev_cV e6 e7))))))
