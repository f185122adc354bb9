/-! ===== best, front ===== -/
theorem isl_ld {V : Nat → Nat → Value} {I : Nat → Nat → Int32} {L : Nat → Nat → Int64} {R : Nat → Nat → Option Nat} {tl : am_H} {n p i : Nat} (hr : rel V I L R tl n p) (hi : i < 4) : ∃ (c kd : Nat) (bm : Nat → Nat), c ≤ 16 ∧ V (40 + 9 * i) 0 = .int (nI c) ∧ I 233 i = nI c ∧ ∀ x, x < c → bm x < n ∧ I (41 + 9 * i) x = nI (bm x) ∧ I 234 (16 * i + x) = nI (bm x) ∧ I 175 (bm x) = nI kd := by
  obtain ⟨c, kd, s1, s2, s3, s4, s5⟩ := rIs_at hr.2.2.2.2.2.2.1 hi
  refine ⟨c, kd, clN (I (41 + 9 * i)), s1, s2, s3, fun x hx => ?_⟩
  obtain ⟨b, b1, b2, b3, b4⟩ := s5 x hx
  have hn := hr.1.1
  rw [clN_at b2 (by omega)]
  exact ⟨b1, b2, b3, b4⟩
theorem all_ld {V : Nat → Nat → Value} {I : Nat → Nat → Int32} {L : Nat → Nat → Int64} {R : Nat → Nat → Option Nat} {tl : am_H} {n p : Nat} (hr : rel V I L R tl n p) : ∃ (m lm : Nat) (Ob : Nat → Nat → Int32 × Nat × Int32), csK V I I m ∧ (∀ b, b < n → bK R tl I b) ∧ oB I lm n m Ob ∧ V 16 0 = .int (nI lm) ∧ V 27 0 = .int (nI lm) ∧ I 206 0 = nI lm ∧ 10 ≤ lm ∧ lm ≤ 2000 := by
  obtain ⟨m, hc⟩ := csK_r hr
  have hB : ∀ b, b < n → bK R tl I b := fun b hb => bK_r hr hb
  obtain ⟨lm, b1, c1, d1, e1, h1, h2, -, -, -, -, -, h3, h4, -, h5, -⟩ := hr.2.2.2.2.2.1
  obtain ⟨Ob, hO⟩ := oB_ex hB hc.2.2.2.2.2 lm
  exact ⟨m, lm, Ob, hc, hB, hO, h3, h4, h5, h1, h2⟩
theorem mb_b {R : Nat → Nat → Option Nat} {tl : am_H} {I0 : Nat → Nat → Int32} {n m c : Nat} {Ob : Nat → Nat → Int32 × Nat × Int32} {bm : Nat → Nat} (hn : n ≤ 600) (hB : ∀ b, b < n → bK R tl I0 b) (m24 : m ≤ 24) (cok : ∀ k, k < m → cOk I0 k) (hm : ∀ x, x < c → bm x < n) : ∀ x, x < c → (fun x => ctN I0 0 (Ob (bm x)) m) x < 2 ^ 60 ∧ (fun x => szB I0 (bm x)) x < 2 ^ 31 ∧ bm x < 2 ^ 31 := fun x hx => by
  have h1 := ctN_le (h := 0) (Oc := Ob (bm x)) m24 cok
  have h2 := (hB (bm x) (hm x hx)).2.2.2.1.2.1
  have h3 := hm x hx
  exact ⟨by show ctN I0 0 (Ob (bm x)) m < _; omega, by show szB I0 (bm x) < _; omega, by omega⟩
/-- the class has looked: better tells -/
theorem c_221k {V : Nat → Nat → Value} {I : Nat → Nat → Int32} {L : Nat → Nat → Int64} {R : Nat → Nat → Option Nat} {tl : am_H} {I0 : Nat → Nat → Int32} {i c m n : Nat} {F : Nat → Int32} {Ob : Nat → Nat → Int32 × Nat × Int32} {bm : Nat → Nat} (hi : i < 4) (hc : c ≤ 16) (hn : n ≤ 600) (hB : ∀ b, b < n → bK R tl I0 b) (m24 : m ≤ 24) (cok : ∀ k, k < m → cOk I0 k) (hm : ∀ x, x < c → bm x < n) (hmb : ∀ x, x < c → mbK i I0 m F Ob bm I L x) (h41 : ∀ x, x < c → I (41 + 9 * i) x = nI (bm x)) {p q : Nat} (hp : p < c) (hq : q < c) : fm_221 (.ref (40 + 9 * i)) (nI p) (nI q) (fx V I L R ++ tl) = some (.inl (some (.int (nI (btr (fun x => ctN I0 0 (Ob (bm x)) m) (fun x => szB I0 (bm x)) bm p q).toNat)), (fx V I L R ++ tl))) := c_221 hi hc hp hq (fun x hx => (hmb x hx).1) (fun x hx => (hmb x hx).2.1) h41 (mb_b hn hB m24 cok hm)
/-! best(island) -/
set_option maxRecDepth 100000 in
set_option maxHeartbeats 1600000 in
theorem u_37 {V : Nat → Nat → Value} {I : Nat → Nat → Int32} {L : Nat → Nat → Int64} {R : Nat → Nat → Option Nat} {tl : am_H} {n p j : Nat} (hr : rel V I L R tl n p) (hm : room tl n p j) {N : Nat} (hN : 5000 < N) (a1 : Int32) : ∃ h', opBI (fm_234 N (.ref 0) a1 (.ref 268) (fx V I L R ++ tl)) (fun h1 => fm_519 N (.ref 174) a1 h1) vfI h' ∧ invW (j + 1) h' := by
  obtain ⟨b1, b2, b3⟩ := hr.1
  rcases dich a1 (n := 4) (by omega) with hn | ⟨i, hi, rfl⟩
  · refine ⟨_, opBI_err (c := 1) (b := 0) (by decide) (tl := tl ++ [am_dummy]) ?_ ?_, inv_mk (rel_thr 1 (rel_dum hr)) (room_dum hm)⟩
    · have e : fm_235 N (.ref 0) a1 (fx V I L R ++ tl) = some (.inr (2, (fx V I L R ++ (tl ++ [am_dummy])))) := by
        unfold fm_235 fg_235_0
        refine ev_i rfl ?_
        rw [c_201n hn]
        rfl
      unfold fm_234 fg_234_0
      refine ev_i rfl ?_
      rw [e]
      rfl
    · show fm_519 N (.ref 174) a1 (fx V I L R ++ (tl ++ [am_dummy])) = _
      unfold fm_519 fg_519_0
      refine ev_i rfl (ev_cI (t489n hn) (ev_f (fun e => e rfl) ?_))
      unfold fg_519_27
      exact ev_b qp_174_0 (ev_b (a := 1) rfl (ev_f (by decide) rfl))
  · obtain ⟨c, kd, bm, c16, s2, s3, s5⟩ := isl_ld hr hi
    by_cases c0 : c = 0
    · subst c0
      refine ⟨_, opBI_err (c := 2) (b := 0) (by decide) (tl := tl ++ [am_dummy]) ?_ ?_, inv_mk (rel_thr 2 (rel_dum hr)) (room_dum hm)⟩
      · have e : fm_235 N (.ref 0) (nI i) (fx V I L R ++ tl) = some (.inr (1, (fx V I L R ++ (tl ++ [am_dummy])))) := by
          rw [← List.append_assoc]
          unfold fm_235 fg_235_0
          exact ev_i rfl (ev_cR (c_201 hi) rfl (ev_b (iv_0 hi s2) (ev_f (fun e => e rfl) rfl)))
        unfold fm_234 fg_234_0
        refine ev_i rfl ?_
        rw [e]
        rfl
      · show fm_519 N (.ref 174) (nI i) (fx V I L R ++ (tl ++ [am_dummy])) = _
        unfold fm_519 fg_519_0
        refine ev_i rfl (ev_cI (t489v hi) (ev_t (by decide) (ev_b (a := Value.ref 233) rfl (ev_b (a := nI 0) ((qa_233 hi).trans (by rw [s3])) (ev_f (fun e => e rfl) ?_)))))
        unfold fg_519_27
        exact ev_b qp_174_0 (ev_b (a := 2) rfl (ev_f (by decide) rfl))
    · obtain ⟨m, lm, Ob, hc, hB, hO, l16, -, l6, lo, hi2⟩ := all_ld hr
      have hbn : ∀ x, x < c → bm x < n := fun x hx => (s5 x hx).1
      obtain ⟨W1, J1, M1, F, e1, hF, x1, x2, x3, f1⟩ := c_218 (L := L) (N := N) (by omega) hi c16 b1 lo hi2 hB hO hbn (rel_w hr) hc s2 l16 (fun x hx => (s5 x hx).2.1)
      have k1 := frK_k hi f1
      have j41 : ∀ x, x < c → J1 (41 + 9 * i) x = nI (bm x) := fun x hx => by
        rw [f1.2.2.1 _ (by omega) (by omega) (by omega) (by omega) (by omega) (by omega)]
        exact (s5 x hx).2.1
      obtain ⟨q, hq⟩ : ∃ q, q = bsF (btr (fun x => ctN I 0 (Ob (bm x)) m) (fun x => szB I (bm x)) bm) (c - 1) 1 0 := ⟨_, rfl⟩
      have qc : q < c := by rw [hq]; exact bsF_lt _ _ _ (by omega) (by omega)
      have w0 : W1 (40 + 9 * i) 0 = .int (nI c) := (f1.1 _ _ (by omega) (fun e => by omega) (fun e => by omega)).trans s2
      have e2 := c_230l (V := W1) (I := J1) (L := M1) (R := R) (tl := tl) (N := N) hi c16 w0 (fun p q hp hq => c_221k hi c16 b1 hB hc.2.2.1 hc.2.2.2.2.2 hbn x1 j41 hp hq) (c - 1) 1 0 N (by omega) (by omega) (by omega)
      rw [← hq] at e2
      have hr1 : rel W1 J1 M1 R tl n p := rel_kl k1 hr
      have k4 := keep_t k1.1 (keep_0 (V := W1) (I := J1) (x := 0))
      obtain ⟨W2, J2, M2, e3, y1, y2, f2⟩ := r_505 (V := vup W1 174 0 (.int 0)) (I := J1) (L := outL M1 (nI (bm q)).toInt64) (R := R) (tl := tl) (V0 := V) (I0 := I) (N := N) hN hi c16 b1 lo hi2 l6 hB hO hbn (fun x hx => (s5 x hx).2.2.1) s3 (k4.2.2 (rel_w hr)) k4 (csK_c k4 hc)
      have e4 := r_517l (V := W2) (I := J2) (L := M2) (R := R) (tl := tl) (N := N) c16 y2 (fun p q hp hq => r_508 c16 hp hq y1 hc.2.2.1 hc.2.2.2.2.2 (fun x hx => (mb_b (Ob := Ob) b1 hB hc.2.2.1 hc.2.2.2.2.2 hbn x hx).2)) (c - 1) 1 0 N (by omega) (by omega) (by omega)
      rw [← hq] at e4
      refine ⟨_, opBI_g (v := nI (bm q)) (W := W1) (J := J1) (M := outL M1 (nI (bm q)).toInt64) (R1 := R) (t1 := tl) (W' := W2) (J' := J2) (M' := M2) (R2 := R) (t2 := tl) ?_ ?_ ?_ ?_, inv_mk (rel_kl (frT_k f2) (rel_ol _ (rel_thr 0 hr1))) (room_up hm)⟩
      · have e : fm_235 N (.ref 0) (nI i) (fx V I L R ++ tl) = some (.inl (some (.int (nI (bm q))), fx W1 J1 M1 R ++ tl)) := by
          unfold fm_235 fg_235_0
          refine ev_i rfl (ev_cR (c_201 hi) rfl (ev_b (iv_0 hi s2) (ev_t (nI_ne0 (by omega) (by omega)) (ev_b (a := Value.ref 1) rfl (ev_b (a := Value.ref 14) rfl (ev_i (io_1 hi) (ev_cV e1 (ev_b (ir_1 hi) (ev_i (io_1 hi) ?_)))))))))
          unfold fm_230 fg_230_0
          exact ev_cI e2 (ev_b (a := nI (bm q)) ((ia_41 hi (by omega)).trans (by rw [j41 q qc])) rfl)
        unfold fm_234 fg_234_0
        refine ev_i rfl ?_
        rw [e]
        exact ev_b out_s rfl
      · show fm_519 N (.ref 174) (nI i) (fx W1 J1 (outL M1 (nI (bm q)).toInt64) R ++ tl) = _
        unfold fm_519 fg_519_0
        refine ev_i rfl (ev_cI (t489v hi) (ev_t (by decide) (ev_b (a := Value.ref 233) rfl (ev_b (a := nI c) ((qa_233 hi).trans (by rw [k1.1.2.1 233 (by decide), s3])) (ev_t (nI_ne0 (by omega) (by omega)) ?_)))))
        unfold fg_519_27
        refine ev_b qp_174_0 (ev_b (a := 0) rfl (ev_t (by decide) (ev_i rfl (ev_cV e3 (ev_b (a := Value.ref 239) rfl (ev_i rfl ?_))))))
        unfold fm_517 fg_517_0
        exact ev_cI e4 (ev_b (a := nI (bm q)) ((qa_239 (by omega)).trans (by rw [(y1 q qc).2.2.2])) rfl)
      · rw [f2.1 174 0 (fun _ => by decide)]
        exact vup_eq
      · rw [f2.2.2.1 268 (by decide) (by decide)]
        rfl
/-! ===== the front ===== -/
def dmB (cm zm : Nat → Nat) (q p : Nat) : Bool := decide (cm q ≤ cm p ∧ zm q ≤ zm p ∧ (cm q < cm p ∨ zm q < zm p))
def alS (P : Nat → Bool) : Nat → Nat → Bool
  | 0, _ => true
  | m + 1, q => if P q = true then false else alS P m (q + 1)
def frB (cm zm : Nat → Nat) (c p : Nat) : Bool := alS (fun q => dmB cm zm q p) c 0
/-- the place of number k of those that are in front -/
def fnP (P : Nat → Bool) : Nat → Nat → Nat → Int32
  | 0, _, _ => -1
  | m + 1, p, k => if P p = true then (if k = 0 then nI p else fnP P m (p + 1) (k - 1)) else fnP P m (p + 1) k
theorem fnP_at {P : Nat → Bool} {c : Nat} : ∀ (m p k : Nat), p + m = c → fnP P m p k = -1 ∨ ∃ q, q < c ∧ fnP P m p k = nI q := by
  intro m
  induction m with
  | zero => intro p k _; exact .inl rfl
  | succ m ih =>
    intro p k hp
    rw [fnP]
    by_cases c1 : P p = true
    · rw [if_pos c1]
      by_cases k0 : k = 0
      · rw [if_pos k0]; exact .inr ⟨p, by omega, rfl⟩
      · rw [if_neg k0]; exact ih _ _ (by omega)
    · rw [if_neg c1]; exact ih _ _ (by omega)
set_option maxRecDepth 100000 in
set_option maxHeartbeats 1600000 in
theorem c_228l {V : Nat → Nat → Value} {I : Nat → Nat → Int32} {L : Nat → Nat → Int64} {R : Nat → Nat → Option Nat} {tl : am_H} {N i c p : Nat} {cm zm : Nat → Nat} (hi : i < 4) (hc : c ≤ 16) (hp : p < c) (h0 : V (40 + 9 * i) 0 = .int (nI c)) (h44 : ∀ x, x < c → L (44 + 9 * i) x = lN (cm x)) (h45 : ∀ x, x < c → I (45 + 9 * i) x = nI (zm x)) (hb : ∀ x, x < c → cm x < 2 ^ 60 ∧ zm x < 2 ^ 31) : ∀ (m q K : Nat), q + m = c → m < K → fg_228_2 N K (.ref (40 + 9 * i)) (nI p) (nI q) (fx V I L R ++ tl) = some (.inl (some (.int (nI (alS (fun q => dmB cm zm q p) m q).toNat)), (fx V I L R ++ tl))) := by
  intro m
  induction m with
  | zero =>
    intro q K hq hK
    obtain ⟨K, rfl⟩ : ∃ k, K = k + 1 := ⟨K - 1, by omega⟩
    rw [fg_228_2]
    exact ev_b (iv_0 hi h0) (ev_t (nI_le (by omega) (by omega)) rfl)
  | succ m ih =>
    intro q K hq hK
    obtain ⟨K, rfl⟩ : ∃ k, K = k + 1 := ⟨K - 1, by omega⟩
    have hqc : q < c := by omega
    obtain ⟨p1, p2⟩ := hb p hp
    obtain ⟨q1, q2⟩ := hb q hqc
    have cp : am_pAL (.ref (44 + 9 * i)) (nI p) (fx V I L R ++ tl) = some (lN (cm p)) := (ia_44 hi (by omega)).trans (by rw [h44 p hp])
    have cq : am_pAL (.ref (44 + 9 * i)) (nI q) (fx V I L R ++ tl) = some (lN (cm q)) := (ia_44 hi (by omega)).trans (by rw [h44 q hqc])
    have zp : am_pA 0 (.ref (45 + 9 * i)) (nI p) (fx V I L R ++ tl) = some (nI (zm p)) := (ia_45 hi (by omega)).trans (by rw [h45 p hp])
    have zq : am_pA 0 (.ref (45 + 9 * i)) (nI q) (fx V I L R ++ tl) = some (nI (zm q)) := (ia_45 hi (by omega)).trans (by rw [h45 q hqc])
    obtain ⟨z1, z2⟩ := cmpL2 q1 p1
    have gt : (0 < lg_cmp (lN (cm q)) (lN (cm p))) ↔ cm p < cm q := by
      constructor
      · intro h
        have h1 := z2.mp (Int32.le_of_lt h)
        have h2 : ¬ cm p = cm q := fun e => by
          rw [z1.mpr e] at h
          exact absurd h (by decide)
        omega
      · intro h
        have h1 : 0 ≤ lg_cmp (lN (cm q)) (lN (cm p)) := z2.mpr (by omega)
        have h2 : ¬ lg_cmp (lN (cm q)) (lN (cm p)) = 0 := fun e => by have := z1.mp e; omega
        exact Int32.lt_of_le_of_ne h1 (fun e => h2 e.symm)
    have lt : (lg_cmp (lN (cm q)) (lN (cm p)) < 0) ↔ cm q < cm p := by
      constructor
      · intro h
        have : ¬ cm p ≤ cm q := fun e => absurd (z2.mpr e) (Int32.not_le.mpr h)
        omega
      · intro h
        exact Int32.not_le.mp (fun e => by have := z2.mp e; omega)
    rw [fg_228_2, alS]
    refine ev_b (iv_0 hi h0) (ev_f (nI_ge (by omega) (by omega)) (ev_b (ir_5 hi) (ev_b cq (ev_b (ir_5 hi) (ev_b cp ?_)))))
    have next : ∀ P : Prop, P → ¬ (cm q ≤ cm p ∧ zm q ≤ zm p ∧ (cm q < cm p ∨ zm q < zm p)) → fg_228_74 N (fg_228_2 N K) (.ref (40 + 9 * i)) (nI p) (nI q) (fx V I L R ++ tl) = some (.inl (some (.int (nI (if dmB cm zm q p = true then false else alS (fun q => dmB cm zm q p) m (q + 1)).toNat)), (fx V I L R ++ tl))) := fun P _ hn => by
      unfold dmB
      rw [if_neg (by rw [decide_eq_true_iff]; exact hn)]
      unfold fg_228_74
      rw [nI_1]
      exact ih (q + 1) K (by omega) (by omega)
    have stop : (cm q ≤ cm p ∧ zm q ≤ zm p ∧ (cm q < cm p ∨ zm q < zm p)) → fg_228_72 N (fx V I L R ++ tl) = some (.inl (some (.int (nI (if dmB cm zm q p = true then false else alS (fun q => dmB cm zm q p) m (q + 1)).toNat)), (fx V I L R ++ tl))) := fun h => by
      unfold dmB
      rw [if_pos (by rw [decide_eq_true_iff]; exact h)]
      rfl
    by_cases c1 : cm p < cm q
    · exact ev_t (gt.mpr c1) (next _ trivial (fun e => by omega))
    · refine ev_f (fun e => c1 (gt.mp e)) (ev_b (ir_6 hi) (ev_b zq (ev_b (ir_6 hi) (ev_b zp ?_))))
      by_cases c2 : zm p < zm q
      · exact ev_t (nI_lt c2 q2) (next _ trivial (fun e => by omega))
      · refine ev_f (nI_nlt (by omega) p2) (ev_b (ir_5 hi) (ev_b cq (ev_b (ir_5 hi) (ev_b cp ?_))))
        by_cases c3 : cm q < cm p
        · exact ev_t (lt.mpr c3) (stop ⟨by omega, by omega, .inl c3⟩)
        · refine ev_f (fun e => c3 (lt.mp e)) (ev_b (ir_6 hi) (ev_b zq (ev_b (ir_6 hi) (ev_b zp ?_))))
          by_cases c4 : zm p ≤ zm q
          · exact ev_t (nI_le c4 q2) (next _ trivial (fun e => by omega))
          · exact ev_f (nI_ge (by omega) p2) (stop ⟨by omega, by omega, .inr (by omega)⟩)
set_option maxRecDepth 100000 in
set_option maxHeartbeats 1600000 in
theorem c_229l {V : Nat → Nat → Value} {I : Nat → Nat → Int32} {L : Nat → Nat → Int64} {R : Nat → Nat → Option Nat} {tl : am_H} {N i c : Nat} {P : Nat → Bool} (hi : i < 4) (hc : c ≤ 16) (h0 : V (40 + 9 * i) 0 = .int (nI c)) (h228 : ∀ p, p < c → fm_228 N (.ref (40 + 9 * i)) (nI p) (fx V I L R ++ tl) = some (.inl (some (.int (nI (P p).toNat)), (fx V I L R ++ tl)))) : ∀ (m p k K : Nat), p + m = c → m < K → k < 2 ^ 31 → fg_229_4 N K (.ref (40 + 9 * i)) (nI k) (nI p) (fx V I L R ++ tl) = some (.inl (some (.int (fnP P m p k)), (fx V I L R ++ tl))) := by
  intro m
  induction m with
  | zero =>
    intro p k K hp hK hk
    obtain ⟨K, rfl⟩ : ∃ k, K = k + 1 := ⟨K - 1, by omega⟩
    rw [fg_229_4]
    exact ev_b (iv_0 hi h0) (ev_t (nI_le (by omega) (by omega)) rfl)
  | succ m ih =>
    intro p k K hp hK hk
    obtain ⟨K, rfl⟩ : ∃ k, K = k + 1 := ⟨K - 1, by omega⟩
    have e := h228 p (by omega)
    rw [fg_229_4, fnP]
    cases c1 : P p with
    | true =>
      rw [c1] at e
      refine ev_b (iv_0 hi h0) (ev_f (nI_ge (by omega) (by omega)) (ev_i (io_1 hi) (ev_cI e (ev_f (by decide) ?_))))
      rw [if_pos rfl]
      cases k with
      | zero =>
        rw [show (if (0 : Nat) = 0 then nI p else fnP P m (p + 1) (0 - 1)) = nI p from if_pos rfl]
        exact ev_f (fun e => e rfl) rfl
      | succ k =>
        rw [show (if k + 1 = 0 then nI p else fnP P m (p + 1) (k + 1 - 1)) = fnP P m (p + 1) k from if_neg (by omega)]
        refine ev_t (nI_ne0 (by omega) hk) ?_
        unfold fg_229_29
        rw [nI_1, nI_m1]
        exact ih (p + 1) k K (by omega) (by omega) (by omega)
    | false =>
      rw [c1] at e
      refine ev_b (iv_0 hi h0) (ev_f (nI_ge (by omega) (by omega)) (ev_i (io_1 hi) (ev_cI e (ev_t rfl ?_))))
      rw [if_neg (by decide)]
      unfold fg_229_29
      rw [nI_1]
      exact ih (p + 1) k K (by omega) (by omega) hk
