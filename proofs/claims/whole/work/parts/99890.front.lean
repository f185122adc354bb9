/-! ===== the front: the reference ===== -/
theorem sg3 {x : Int32} {A B : Nat} (z1 : x = 0 ↔ A = B) (z2 : 0 ≤ x ↔ A ≤ B) : (0 < x ↔ A < B) ∧ (x < 0 ↔ B < A) := by
  refine ⟨⟨fun h => ?_, fun h => ?_⟩, ⟨fun h => ?_, fun h => ?_⟩⟩
  · have h1 := z2.mp (Int32.le_of_lt h)
    have h2 : ¬ A = B := fun e => by
      rw [z1.mpr e] at h
      exact absurd h (by decide)
    omega
  · have h1 : 0 ≤ x := z2.mpr (by omega)
    have h2 : ¬ x = 0 := fun e => by have := z1.mp e; omega
    exact Int32.lt_of_le_of_ne h1 (fun e => h2 e.symm)
  · have : ¬ A ≤ B := fun e => absurd (z2.mpr e) (Int32.not_le.mpr h)
    omega
  · exact Int32.not_le.mp (fun e => by have := z2.mp e; omega)
set_option maxRecDepth 100000 in
set_option maxHeartbeats 1600000 in
theorem r_514l {V : Nat → Nat → Value} {I : Nat → Nat → Int32} {L : Nat → Nat → Int64} {R : Nat → Nat → Option Nat} {tl : am_H} {I0 : Nat → Nat → Int32} {N c m0 p : Nat} {Ob : Nat → Nat → Int32 × Nat × Int32} {bm : Nat → Nat} (hc : c ≤ 16) (hp : p < c) (h0 : V 174 105 = .int (nI c)) (hg : ∀ x, x < c → gaK I0 m0 Ob bm I L x) (m24 : m0 ≤ 24) (cok : ∀ k, k < m0 → cOk I0 k) (hb : ∀ x, x < c → szB I0 (bm x) < 2 ^ 31) : ∀ (m q K : Nat) (f : Bool), q + m = c → m < K → fg_514_4 N K (.ref 174) (nI p) (nI f.toNat) (nI q) (fx V I L R ++ tl) = some (.inl (some (.int (nI (f && alS (fun q => dmB (fun x => ctN I0 0 (Ob (bm x)) m0) (fun x => szB I0 (bm x)) q p) m q).toNat)), (fx V I L R ++ tl))) := by
  intro m
  induction m with
  | zero =>
    intro q K f hq hK
    obtain ⟨K, rfl⟩ : ∃ k, K = k + 1 := ⟨K - 1, by omega⟩
    rw [fg_514_4]
    refine ev_b (rdI h0) (ev_t (nI_le (by omega) (by omega)) ?_)
    cases f <;> rfl
  | succ m ih =>
    intro q K f hq hK
    obtain ⟨K, rfl⟩ : ∃ k, K = k + 1 := ⟨K - 1, by omega⟩
    have hqc : q < c := by omega
    have e9 := r_509 (V := V) (I := I) (L := L) (R := R) (tl := tl) hc hqc hp hg
    obtain ⟨p1, p2, p3, p4⟩ := hg p hp
    obtain ⟨q1, q2, q3, q4⟩ := hg q hqc
    have hws := wsN_le (h := 0) m24 cok
    have hcp := ctN_le (h := 0) (Oc := Ob (bm p)) m24 cok
    have hcq := ctN_le (h := 0) (Oc := Ob (bm q)) m24 cok
    have zp : am_pA 0 (.ref 238) (nI p) (fx V I L R ++ tl) = some (nI (szB I0 (bm p))) := (qa_238 (by omega)).trans (by rw [p3])
    have zq : am_pA 0 (.ref 238) (nI q) (fx V I L R ++ tl) = some (nI (szB I0 (bm q))) := (qa_238 (by omega)).trans (by rw [q3])
    obtain ⟨y1, y2⟩ := cmq_eq (c1 := ctN I0 0 (Ob (bm q)) m0) (c2 := ctN I0 0 (Ob (bm p)) m0) hws.1
    have l1 := dv_le (ctN I0 0 (Ob (bm p)) m0) (Nat.gcd (ctN I0 0 (Ob (bm p)) m0) (wsN I0 0 m0))
    have l2 := dv_le (wsN I0 0 m0) (Nat.gcd (ctN I0 0 (Ob (bm p)) m0) (wsN I0 0 m0))
    have l3 := dv_le (ctN I0 0 (Ob (bm q)) m0) (Nat.gcd (ctN I0 0 (Ob (bm q)) m0) (wsN I0 0 m0))
    have l4 := dv_le (wsN I0 0 m0) (Nat.gcd (ctN I0 0 (Ob (bm q)) m0) (wsN I0 0 m0))
    obtain ⟨z1, z2⟩ := cmpL (a := ctN I0 0 (Ob (bm q)) m0 / Nat.gcd (ctN I0 0 (Ob (bm q)) m0) (wsN I0 0 m0) * (wsN I0 0 m0 / Nat.gcd (ctN I0 0 (Ob (bm p)) m0) (wsN I0 0 m0))) (b := ctN I0 0 (Ob (bm p)) m0 / Nat.gcd (ctN I0 0 (Ob (bm p)) m0) (wsN I0 0 m0) * (wsN I0 0 m0 / Nat.gcd (ctN I0 0 (Ob (bm q)) m0) (wsN I0 0 m0))) (mul_lt60 (by omega) (by omega)) (mul_lt60 (by omega) (by omega))
    obtain ⟨gt, lt⟩ := sg3 (z1.trans y1) (z2.trans y2)
    generalize hd : lN (ctN I0 0 (Ob (bm q)) m0 / Nat.gcd (ctN I0 0 (Ob (bm q)) m0) (wsN I0 0 m0) * (wsN I0 0 m0 / Nat.gcd (ctN I0 0 (Ob (bm p)) m0) (wsN I0 0 m0))) - lN (ctN I0 0 (Ob (bm p)) m0 / Nat.gcd (ctN I0 0 (Ob (bm p)) m0) (wsN I0 0 m0) * (wsN I0 0 m0 / Nat.gcd (ctN I0 0 (Ob (bm q)) m0) (wsN I0 0 m0))) = d at e9 gt lt
    rw [alS]
    obtain ⟨O, hO⟩ : ∃ O : Option am_O, O = some (.inl (some (.int (nI (f && (if dmB (fun x => ctN I0 0 (Ob (bm x)) m0) (fun x => szB I0 (bm x)) q p = true then false else alS (fun q => dmB (fun x => ctN I0 0 (Ob (bm x)) m0) (fun x => szB I0 (bm x)) q p) m (q + 1))).toNat)), (fx V I L R ++ tl))) := ⟨_, rfl⟩
    rw [← hO]
    have next : ∀ b : Bool, (f && (if dmB (fun x => ctN I0 0 (Ob (bm x)) m0) (fun x => szB I0 (bm x)) q p = true then false else alS (fun q => dmB (fun x => ctN I0 0 (Ob (bm x)) m0) (fun x => szB I0 (bm x)) q p) m (q + 1))) = (b && alS (fun q => dmB (fun x => ctN I0 0 (Ob (bm x)) m0) (fun x => szB I0 (bm x)) q p) m (q + 1)) → fg_514_85 N (fg_514_4 N K) (.ref 174) (nI p) (nI q) (nI b.toNat) (fx V I L R ++ tl) = O := fun b hb => by
      rw [hO, hb]
      unfold fg_514_85
      rw [nI_1]
      exact ih (q + 1) K b (by omega) (by omega)
    have n0 : ¬ dmB (fun x => ctN I0 0 (Ob (bm x)) m0) (fun x => szB I0 (bm x)) q p = true → fg_514_85 N (fg_514_4 N K) (.ref 174) (nI p) (nI q) (nI f.toNat) (fx V I L R ++ tl) = O := fun h => next f (by rw [if_neg h])
    have n1 : dmB (fun x => ctN I0 0 (Ob (bm x)) m0) (fun x => szB I0 (bm x)) q p = true → fg_514_85 N (fg_514_4 N K) (.ref 174) (nI p) (nI q) (nI false.toNat) (fx V I L R ++ tl) = O := fun h => next false (by rw [if_pos h]; cases f <;> rfl)
    have dm : ∀ P : Prop, (¬ (ctN I0 0 (Ob (bm q)) m0 ≤ ctN I0 0 (Ob (bm p)) m0 ∧ szB I0 (bm q) ≤ szB I0 (bm p) ∧ (ctN I0 0 (Ob (bm q)) m0 < ctN I0 0 (Ob (bm p)) m0 ∨ szB I0 (bm q) < szB I0 (bm p)))) → ¬ dmB (fun x => ctN I0 0 (Ob (bm x)) m0) (fun x => szB I0 (bm x)) q p = true := fun _ h => by
      unfold dmB
      rw [decide_eq_true_iff]
      exact h
    have dp : (ctN I0 0 (Ob (bm q)) m0 ≤ ctN I0 0 (Ob (bm p)) m0 ∧ szB I0 (bm q) ≤ szB I0 (bm p) ∧ (ctN I0 0 (Ob (bm q)) m0 < ctN I0 0 (Ob (bm p)) m0 ∨ szB I0 (bm q) < szB I0 (bm p))) → dmB (fun x => ctN I0 0 (Ob (bm x)) m0) (fun x => szB I0 (bm x)) q p = true := fun h => by
      unfold dmB
      rw [decide_eq_true_iff]
      exact h
    -- the flag as it was, where this one is no greater in neither
    have k42 : ¬ dmB (fun x => ctN I0 0 (Ob (bm x)) m0) (fun x => szB I0 (bm x)) q p = true → fg_514_42 N (fg_514_4 N K) (.ref 174) (nI p) (nI f.toNat) (nI q) (fx V I L R ++ tl) = O := fun h => by
      unfold fg_514_42 fg_514_43
      cases hf : f with
      | false =>
        have := n0 h
        rw [hf] at this
        refine ev_t rfl ?_
        unfold fg_514_84
        exact this
      | true =>
        have := n0 h
        rw [hf] at this
        refine ev_f (by decide) (ev_t rfl ?_)
        unfold fg_514_80
        exact this
    rw [fg_514_4]
    refine ev_b (rdI h0) (ev_f (nI_ge (by omega) (by omega)) (ev_i rfl (ev_cL e9 ?_)))
    by_cases c1 : ctN I0 0 (Ob (bm p)) m0 < ctN I0 0 (Ob (bm q)) m0
    · exact ev_t (gt.mpr c1) (k42 (dm True (fun e => by omega)))
    · refine ev_f (fun e => c1 (gt.mp e)) (ev_b (a := Value.ref 238) rfl (ev_b zq (ev_b (a := Value.ref 238) rfl (ev_b zp ?_))))
      by_cases c2 : szB I0 (bm p) < szB I0 (bm q)
      · exact ev_t (nI_lt c2 (hb q hqc)) (k42 (dm True (fun e => by omega)))
      · refine ev_f (nI_nlt (by omega) (hb p hp)) ?_
        unfold fg_514_43
        cases hf : f with
        | false =>
          refine ev_t rfl ?_
          unfold fg_514_84
          by_cases cd : dmB (fun x => ctN I0 0 (Ob (bm x)) m0) (fun x => szB I0 (bm x)) q p = true
          · have := n1 cd
            exact this
          · have := n0 cd
            rw [hf] at this
            exact this
        | true =>
          refine ev_f (by decide) (ev_f (by decide) (ev_i rfl (ev_cL e9 ?_)))
          by_cases c3 : ctN I0 0 (Ob (bm q)) m0 < ctN I0 0 (Ob (bm p)) m0
          · have := n1 (dp ⟨by omega, by omega, .inl c3⟩)
            refine ev_t (lt.mpr c3) ?_
            unfold fg_514_84
            exact this
          · refine ev_f (fun e => c3 (lt.mp e)) (ev_b (a := Value.ref 238) rfl (ev_b zq (ev_b (a := Value.ref 238) rfl (ev_b zp ?_))))
            by_cases c4 : szB I0 (bm q) < szB I0 (bm p)
            · have := n1 (dp ⟨by omega, by omega, .inr c4⟩)
              refine ev_t (nI_lt c4 (hb p hp)) ?_
              unfold fg_514_84
              exact this
            · have := n0 (dm True (fun e => by omega))
              rw [hf] at this
              refine ev_f (nI_nlt (by omega) (hb q hqc)) ?_
              unfold fg_514_80
              exact this
set_option maxRecDepth 100000 in
set_option maxHeartbeats 1600000 in
theorem r_515l {V : Nat → Nat → Value} {I : Nat → Nat → Int32} {L : Nat → Nat → Int64} {R : Nat → Nat → Option Nat} {tl : am_H} {N c : Nat} {P : Nat → Bool} (hc : c ≤ 16) (h0 : V 174 105 = .int (nI c)) (h514 : ∀ p, p < c → fm_514 N (.ref 174) (nI p) (fx V I L R ++ tl) = some (.inl (some (.int (nI (P p).toNat)), (fx V I L R ++ tl)))) : ∀ (m p k K : Nat), p + m = c → m < K → k < 2 ^ 31 → fg_515_4 N K (.ref 174) (nI k) (nI p) (fx V I L R ++ tl) = some (.inl (some (.int (fnP P m p k)), (fx V I L R ++ tl))) := by
  intro m
  induction m with
  | zero =>
    intro p k K hp hK hk
    obtain ⟨K, rfl⟩ : ∃ k, K = k + 1 := ⟨K - 1, by omega⟩
    rw [fg_515_4]
    exact ev_b (rdI h0) (ev_t (nI_le (by omega) (by omega)) rfl)
  | succ m ih =>
    intro p k K hp hK hk
    obtain ⟨K, rfl⟩ : ∃ k, K = k + 1 := ⟨K - 1, by omega⟩
    have e := h514 p (by omega)
    rw [fg_515_4, fnP]
    cases c1 : P p with
    | true =>
      rw [c1] at e
      refine ev_b (rdI h0) (ev_f (nI_ge (by omega) (by omega)) (ev_i rfl (ev_cI e (ev_t (by decide) ?_))))
      rw [if_pos rfl]
      cases k with
      | zero => exact ev_f (fun e => e rfl) rfl
      | succ k =>
        refine ev_t (nI_ne0 (by omega) hk) ?_
        unfold fg_515_32
        rw [nI_1, nI_m1]
        exact ih (p + 1) k K (by omega) (by omega) (by omega)
    | false =>
      rw [c1] at e
      refine ev_b (rdI h0) (ev_f (nI_ge (by omega) (by omega)) (ev_i rfl (ev_cI e (ev_f (fun e => e rfl) ?_))))
      rw [if_neg (by decide)]
      unfold fg_515_32
      rw [nI_1]
      exact ih (p + 1) k K (by omega) (by omega) hk
/-! front(island, k) -/
set_option maxRecDepth 100000 in
set_option maxHeartbeats 1600000 in
theorem u_38 {V : Nat → Nat → Value} {I : Nat → Nat → Int32} {L : Nat → Nat → Int64} {R : Nat → Nat → Option Nat} {tl : am_H} {n p j : Nat} (hr : rel V I L R tl n p) (hm : room tl n p j) {N : Nat} (hN : 5000 < N) (a1 a2 : Int32) : ∃ h', opBI (fm_236 N (.ref 0) a1 a2 (.ref 268) (fx V I L R ++ tl)) (fun h1 => fm_520 N (.ref 174) a1 a2 h1) vfI h' ∧ invW (j + 1) h' := by
  obtain ⟨b1, b2, b3⟩ := hr.1
  rcases dich a1 (n := 4) (by omega) with hn | ⟨i, hi, rfl⟩
  · refine ⟨_, opBI_err (c := 1) (b := 0) (by decide) (tl := tl ++ [am_dummy]) ?_ ?_, inv_mk (rel_thr 1 (rel_dum hr)) (room_dum hm)⟩
    · have e : fm_237 N (.ref 0) a1 a2 (fx V I L R ++ tl) = some (.inr (2, (fx V I L R ++ (tl ++ [am_dummy])))) := by
        unfold fm_237 fg_237_0
        refine ev_i rfl ?_
        rw [c_201n hn]
        rfl
      unfold fm_236 fg_236_0
      refine ev_i rfl ?_
      rw [e]
      rfl
    · show fm_520 N (.ref 174) a1 a2 (fx V I L R ++ (tl ++ [am_dummy])) = _
      unfold fm_520 fg_520_0
      refine ev_i rfl (ev_cI (t489n hn) (ev_t rfl ?_))
      unfold fg_520_14
      exact ev_b qp_174_0 (ev_b (a := 1) rfl (ev_f (by decide) rfl))
  · obtain ⟨c, kd, bm, c16, s2, s3, s5⟩ := isl_ld hr hi
    obtain ⟨m, lm, Ob, hc, hB, hO, l16, -, l6, lo, hi2⟩ := all_ld hr
    have hbn : ∀ x, x < c → bm x < n := fun x hx => (s5 x hx).1
    obtain ⟨W1, J1, M1, F, e1, hF, x1, x2, x3, f1⟩ := c_218 (L := L) (N := N) (by omega) hi c16 b1 lo hi2 hB hO hbn (rel_w hr) hc s2 l16 (fun x hx => (s5 x hx).2.1)
    have k1 := frK_k hi f1
    have j41 : ∀ x, x < c → J1 (41 + 9 * i) x = nI (bm x) := fun x hx => by
      rw [f1.2.2.1 _ (by omega) (by omega) (by omega) (by omega) (by omega) (by omega)]
      exact (s5 x hx).2.1
    have w0 : W1 (40 + 9 * i) 0 = .int (nI c) := (f1.1 _ _ (by omega) (fun e => by omega) (fun e => by omega)).trans s2
    have mbb := mb_b (Ob := Ob) b1 hB hc.2.2.1 hc.2.2.2.2.2 hbn
    have e228 : ∀ p, p < c → fm_228 N (.ref (40 + 9 * i)) (nI p) (fx W1 J1 M1 R ++ tl) = some (.inl (some (.int (nI (frB (fun x => ctN I 0 (Ob (bm x)) m) (fun x => szB I (bm x)) c p).toNat)), (fx W1 J1 M1 R ++ tl))) := fun p hp => by
      unfold fm_228 fg_228_0
      exact c_228l hi c16 hp w0 (fun x hx => (x1 x hx).1) (fun x hx => (x1 x hx).2.1) (fun x hx => ⟨(mbb x hx).1, (mbb x hx).2.1⟩) c 0 N (by omega) (by omega)
    -- what comes of it
    obtain ⟨r, hr1, hr2⟩ : ∃ r : Int32, (r = -1 ∨ ∃ q, q < c ∧ r = nI q) ∧ r = (if 0 ≤ a2 then fnP (frB (fun x => ctN I 0 (Ob (bm x)) m) (fun x => szB I (bm x)) c) c 0 a2.toNatClampNeg else -1) := ⟨_, by
      by_cases ca : 0 ≤ a2
      · rw [if_pos ca]; exact fnP_at c 0 _ (by omega)
      · rw [if_neg ca]; exact .inl rfl, rfl⟩
    obtain ⟨v, hv⟩ : ∃ v : Int32, (r = -1 → v = -1) ∧ ∀ q, q < c → r = nI q → v = nI (bm q) := by
      rcases hr1 with e | ⟨q, qc, e⟩
      · exact ⟨-1, fun _ => rfl, fun q qc e2 => absurd (e2.symm.trans e) (nI_nm1 (by omega))⟩
      · refine ⟨nI (bm q), fun e2 => absurd (e.symm.trans e2) (nI_nm1 (by omega)), fun q' qc' e2 => ?_⟩
        have : q = q' := (nI_eq (by omega) (by omega)).mp (e.symm.trans e2)
        rw [this]
    have hrr : rel W1 J1 M1 R tl n p := rel_kl k1 hr
    have k4 := keep_t k1.1 (keep_0 (V := W1) (I := J1) (x := 0))
    obtain ⟨W2, J2, M2, e3, y1, y2, f2⟩ := r_505 (V := vup W1 174 0 (.int 0)) (I := J1) (L := outL M1 v.toInt64) (R := R) (tl := tl) (V0 := V) (I0 := I) (N := N) hN hi c16 b1 lo hi2 l6 hB hO hbn (fun x hx => (s5 x hx).2.2.1) s3 (k4.2.2 (rel_w hr)) k4 (csK_c k4 hc)
    have e514 : ∀ p, p < c → fm_514 N (.ref 174) (nI p) (fx W2 J2 M2 R ++ tl) = some (.inl (some (.int (nI (frB (fun x => ctN I 0 (Ob (bm x)) m) (fun x => szB I (bm x)) c p).toNat)), (fx W2 J2 M2 R ++ tl))) := fun p hp => by
      unfold fm_514 fg_514_0
      exact r_514l c16 hp y2 y1 hc.2.2.1 hc.2.2.2.2.2 (fun x hx => (mbb x hx).2.1) c 0 N true (by omega) (by omega)
    refine ⟨_, opBI_g (v := v) (W := W1) (J := J1) (M := outL M1 v.toInt64) (R1 := R) (t1 := tl) (W' := W2) (J' := J2) (M' := M2) (R2 := R) (t2 := tl) ?_ ?_ ?_ ?_, inv_mk (rel_kl (frT_k f2) (rel_ol _ (rel_thr 0 hrr))) (room_up hm)⟩
    · have e : fm_237 N (.ref 0) (nI i) a2 (fx V I L R ++ tl) = some (.inl (some (.int v), fx W1 J1 M1 R ++ tl)) := by
        have fin : fg_237_31 N (.ref (40 + 9 * i)) r (fx W1 J1 M1 R ++ tl) = some (.inl (some (.int v), fx W1 J1 M1 R ++ tl)) := by
          unfold fg_237_31
          rcases hr1 with e | ⟨q, qc, e⟩
          · rw [hv.1 e, e]
            exact ev_f (by decide) rfl
          · rw [hv.2 q qc e, e]
            exact ev_t (nI_pos' (by omega)) (ev_b (ir_1 hi) (ev_b (a := nI (bm q)) ((ia_41 hi (by omega)).trans (by rw [j41 q qc])) rfl))
        unfold fm_237 fg_237_0
        refine ev_i rfl (ev_cR (c_201 hi) rfl (ev_b (a := Value.ref 1) rfl (ev_b (a := Value.ref 14) rfl (ev_i (io_1 hi) (ev_cV e1 ?_)))))
        by_cases ca : 0 ≤ a2
        · rw [if_pos ca] at hr2
          obtain ⟨k, k31, rfl⟩ := nI_of (Int32.not_lt.mpr ca)
          rw [nI_clamp k31] at hr2
          refine ev_t ca (ev_i (io_1 hi) ?_)
          unfold fm_229 fg_229_0
          refine ev_cI (c_229l (V := W1) (I := J1) (L := M1) (R := R) (tl := tl) (N := N) hi c16 w0 e228 c 0 k N (by omega) (by omega) k31) ?_
          rw [← hr2]
          exact fin
        · rw [if_neg ca] at hr2
          refine ev_f ca ?_
          rw [← hr2]
          exact fin
      unfold fm_236 fg_236_0
      refine ev_i rfl ?_
      rw [e]
      exact ev_b out_s rfl
    · show fm_520 N (.ref 174) (nI i) a2 (fx W1 J1 (outL M1 v.toInt64) R ++ tl) = _
      have fin : fg_520_44 N (.ref 174) r (fx W2 J2 M2 R ++ tl) = some (.inl (some (.int v), fx W2 J2 M2 R ++ tl)) := by
        unfold fg_520_44
        rcases hr1 with e | ⟨q, qc, e⟩
        · rw [hv.1 e, e]
          exact ev_f (by decide) rfl
        · rw [hv.2 q qc e, e]
          exact ev_t (nI_pos' (by omega)) (ev_b (a := Value.ref 239) rfl (ev_b (a := nI (bm q)) ((qa_239 (by omega)).trans (by rw [(y1 q qc).2.2.2])) rfl))
      unfold fm_520 fg_520_0
      refine ev_i rfl (ev_cI (t489v hi) (ev_f (by decide) ?_))
      unfold fg_520_14
      refine ev_b qp_174_0 (ev_b (a := 0) rfl (ev_t (by decide) (ev_i rfl (ev_cV e3 ?_))))
      by_cases ca : 0 ≤ a2
      · rw [if_pos ca] at hr2
        obtain ⟨k, k31, rfl⟩ := nI_of (Int32.not_lt.mpr ca)
        rw [nI_clamp k31] at hr2
        refine ev_t ca (ev_i rfl ?_)
        unfold fm_515 fg_515_0
        refine ev_cI (r_515l (V := W2) (I := J2) (L := M2) (R := R) (tl := tl) (N := N) c16 y2 e514 c 0 k N (by omega) (by omega) k31) ?_
        rw [← hr2]
        exact fin
      · rw [if_neg ca] at hr2
        refine ev_f ca ?_
        rw [← hr2]
        exact fin
    · rw [f2.1 174 0 (fun _ => by decide)]
      exact vup_eq
    · rw [f2.2.2.1 268 (by decide) (by decide)]
      rfl
