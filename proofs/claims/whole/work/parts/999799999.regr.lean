/-! ===== regrowth in the reference ===== -/
theorem hd_473_140 {N : Nat} {h : am_H} {r_ : Option am_O} (k_ : some (.inl (none, h)) = r_) : fg_473_140 N h = r_ := k_
theorem hd_473_57 {N : Nat} {K : Nat} {x0 : Value} {x1 : Int32} {x2 : Int32} {x4 : Int32} {x5 : Int32} {h : am_H} {r_ : Option am_O} (k_ : (if am_pOk 12 x0 h then am_cL true (fm_383 x0 x4 x5 x2 h) (fun v2 h3 => (if ¬ (lg_cmp v2 0) = 0 then (if am_pOk 12 x0 h3 then am_cL true (fm_383 x0 x4 x5 x2 h3) (fun v7 h8 => (if am_pOk 12 x0 h8 then am_cL true (fm_477 x0 v7 h8) (fun v11 h12 => (if am_pOk 12 x0 h12 then am_cV true (fm_451 x0 h12) (fun h16 => (if am_pOk 12 x0 h16 then am_cV true (fm_443 N x0 0 x1 h16) (fun h20 => (if am_pOk 12 x0 h20 then am_cV true (fm_386 N x0 x4 x5 x2 v11 h20) (fun h24 => ((am_vR (am_pG 3098 x0 h24)).bind fun v26 => ((am_pA 0 v26 x1 h24).bind fun v28 => ((am_vI (am_pG 3090 x0 h24)).bind fun v30 => (if am_pOk 12 x0 h24 then am_cV true (fm_443 N x0 ((x1 + v28)) v30 h24) (fun h34 => (if am_pOk 12 x0 h34 then am_cI true (fm_445 N x0 h34) (fun v37 h38 => (if ¬ v37 = 0 then (fg_473_140 N h38) else (if am_pOk 12 x0 h38 then am_cV true (fm_442 N x0 h38) (fun h43 => (fg_473_140 N h43)) else none))) else none)) else none))))) else none)) else none)) else none)) else none)) else none) else (fg_473_57 N K x0 x1 ((x2 + 1)) x4 x5 h3))) else none) = r_) : fg_473_57 N (K + 1) x0 x1 x2 x4 x5 h = r_ := by rw [fg_473_57]; exact k_
theorem hd_473_51 {N : Nat} {x0 : Value} {x1 : Int32} {x2 : Int32} {x4 : Int32} {s0 : Int32} {h : am_H} {r_ : Option am_O} (k_ : (if am_pOk 12 x0 h then am_cV true (fm_377 N x0 h) (fun h3 => (fg_473_57 N N x0 x1 x2 x4 s0 h3)) else none) = r_) : fg_473_51 N x0 x1 x2 x4 s0 h = r_ := k_
theorem hd_473_32 {N : Nat} {x0 : Value} {x1 : Int32} {x2 : Int32} {s0 : Int32} {h : am_H} {r_ : Option am_O} (k_ : ((am_vR (am_pG 3093 x0 h)).bind fun v1 => ((am_pA 0 v1 x1 h).bind fun v3 => am_cI false (fm_334 v3 h) (fun v5 h6 => (if v5 = 0 then (fg_473_51 N x0 x1 x2 s0 0 h6) else (fg_473_51 N x0 x1 x2 s0 1 h6))))) = r_) : fg_473_32 N x0 x1 x2 s0 h = r_ := k_
theorem hd_473_0 {N : Nat} {x0 : Value} {h : am_H} {r_ : Option am_O} (k_ : ((am_vI (am_pG 3090 x0 h)).bind fun v1 => (if am_pOk 12 x0 h then am_cI true (fm_474 x0 v1 h) (fun v4 h5 => (if am_pOk 12 x0 h5 then am_cI true (fm_474 x0 4 h5) (fun v8 h9 => (if am_pOk 12 x0 h9 then am_cI true (fm_476 N x0 v4 h9) (fun v12 h13 => (if v12 = 0 then (fg_473_32 N x0 v4 ((1 + v8)) 0 h13) else (fg_473_32 N x0 v4 ((1 + v8)) 1 h13))) else none)) else none)) else none)) = r_) : fg_473_0 N x0 h = r_ := k_
theorem hm_473 {N : Nat} {y0 : Value} {h : am_H} {r_ : Option am_O} (k_ : fg_473_0 N y0 h = r_) : fm_473 N y0 h = r_ := k_
theorem hd_476_61 {N : Nat} {rec_4 : Value → Int32 → Int32 → Int32 → am_H → Option am_O} {x0 : Value} {x1 : Int32} {x2 : Int32} {x3 : Int32} {h : am_H} {r_ : Option am_O} (k_ : (rec_4 x0 x1 x2 ((x3 + 1)) h) = r_) : fg_476_61 N rec_4 x0 x1 x2 x3 h = r_ := k_
theorem hd_476_60 {N : Nat} {rec_4 : Value → Int32 → Int32 → Int32 → am_H → Option am_O} {x0 : Value} {x1 : Int32} {x3 : Int32} {s0 : Int32} {h : am_H} {r_ : Option am_O} (k_ : (fg_476_61 N rec_4 x0 x1 s0 x3 h) = r_) : fg_476_60 N rec_4 x0 x1 x3 s0 h = r_ := k_
theorem hd_476_59 {N : Nat} {rec_4 : Value → Int32 → Int32 → Int32 → am_H → Option am_O} {x0 : Value} {x1 : Int32} {x3 : Int32} {h : am_H} {r_ : Option am_O} (k_ : (fg_476_60 N rec_4 x0 x1 x3 0 h) = r_) : fg_476_59 N rec_4 x0 x1 x3 h = r_ := k_
theorem hd_476_55 {N : Nat} {rec_4 : Value → Int32 → Int32 → Int32 → am_H → Option am_O} {x0 : Value} {x1 : Int32} {x3 : Int32} {h : am_H} {r_ : Option am_O} (k_ : (fg_476_60 N rec_4 x0 x1 x3 1 h) = r_) : fg_476_55 N rec_4 x0 x1 x3 h = r_ := k_
theorem hd_476_4 {N : Nat} {K : Nat} {x0 : Value} {x1 : Int32} {x2 : Int32} {x3 : Int32} {h : am_H} {r_ : Option am_O} (k_ : (if x1 ≤ x3 then (if am_rfit (some FieldType.boolean) x2 then some (.inl (some (.int x2), h)) else none) else ((am_vR (am_pG 3093 x0 h)).bind fun v3 => ((am_pA 0 v3 x3 h).bind fun v5 => (if v5 = 19 then (if am_pOk 12 x0 h then am_cI true (fm_393 N x0 x3 1 h) (fun v9 h10 => (if ¬ x2 = 0 then (fg_476_55 N (fg_476_4 N K) x0 x1 x3 h10) else (if x1 < v9 then (fg_476_59 N (fg_476_4 N K) x0 x1 x3 h10) else ((am_vR (am_pG 3098 x0 h10)).bind fun v14 => ((am_pA 0 v14 v9 h10).bind fun v16 => (if (v9 + v16) ≤ x1 then (fg_476_59 N (fg_476_4 N K) x0 x1 x3 h10) else (fg_476_55 N (fg_476_4 N K) x0 x1 x3 h10))))))) else none) else (fg_476_61 N (fg_476_4 N K) x0 x1 x2 x3 h))))) = r_) : fg_476_4 N (K + 1) x0 x1 x2 x3 h = r_ := by rw [fg_476_4]; exact k_
theorem hd_476_0 {N : Nat} {x0 : Value} {x1 : Int32} {h : am_H} {r_ : Option am_O} (k_ : (fg_476_4 N N x0 x1 0 0 h) = r_) : fg_476_0 N x0 x1 h = r_ := k_
theorem hm_476 {N : Nat} {y0 : Value} {y1 : Int32} {h : am_H} {r_ : Option am_O} (k_ : fg_476_0 N y0 y1 h = r_) : fm_476 N y0 y1 h = r_ := k_

/-- a place within a node's span is in one of its parts -/
theorem par_cov {P : xT} {a k : Nat} (ha : a < P.length) (h1 : a < k) (h2 : k < xE P a) : ∃ q, q < 3 ∧ q < arN (xS P a) ∧ pA P a q ≤ k ∧ k < xE P (pA P a q) := by
  have hd := sl_at (P := P) ha
  have ar3 := ar_le (xS P a)
  have e0 : xE P a = a + (1 + tk (arN (xS P a)) ((sl P).drop (a + 1))) := by
    show enL (sl P) a = _
    unfold enL
    rw [hd, tk_c, Nat.zero_add]
  have eq : ∀ q, q < 3 → xE P (pA P a q) = a + 1 + tk (q + 1) ((sl P).drop (a + 1)) := fun q hq => by
    show enL (sl P) (pA P a q) = _
    unfold enL
    rw [pA_tk ha hq]
    have t1 := tk_add ((sl P).drop (a + 1)) q 1
    rw [List.drop_drop] at t1
    omega
  have z0 : tk 0 ((sl P).drop (a + 1)) = 0 := tk_0 _
  by_cases c0 : arN (xS P a) = 0
  · rw [c0, z0] at e0; omega
  by_cases c1 : k < a + 1 + tk 1 ((sl P).drop (a + 1))
  · exact ⟨0, by omega, by omega, by rw [pA_tk ha (by omega), z0]; omega, by rw [eq 0 (by omega)]; exact c1⟩
  by_cases d1 : arN (xS P a) = 1
  · rw [d1] at e0; omega
  by_cases c2 : k < a + 1 + tk 2 ((sl P).drop (a + 1))
  · exact ⟨1, by omega, by omega, by rw [pA_tk ha (by omega)]; omega, by rw [eq 1 (by omega)]; exact c2⟩
  by_cases d2 : arN (xS P a) = 2
  · rw [d2] at e0; omega
  have d3 : arN (xS P a) = 3 := by omega
  rw [d3] at e0
  exact ⟨2, by omega, by omega, by rw [pA_tk ha (by omega)]; omega, by rw [eq 2 (by omega)]; show k < a + 1 + tk 3 _; omega⟩
theorem in_down {P : xT} (ho : okP P) : ∀ m a k, k - a ≤ m → a < P.length → a ≤ k → k < xE P a → inL (sl P) a = 0 → inL (sl P) k = 1 → ∃ i, i < k ∧ xS P i = 19 ∧ xE P (i + 1) ≤ k ∧ k < xE P (xE P (i + 1)) := by
  intro m
  induction m with
  | zero =>
    intro a k h1 h2 h3 h4 h5 h6
    obtain rfl : a = k := by omega
    omega
  | succ m ih =>
    intro a k h1 h2 h3 h4 h5 h6
    by_cases e : a = k
    · subst e; omega
    obtain ⟨q, q3, qa, q1, q2⟩ := par_cov h2 (show a < k by omega) h4
    obtain ⟨p1, p2, p3, p4⟩ := part_at ho h2 q3 qa
    by_cases c : xS P a = 19 ∧ q = 1
    · obtain ⟨c1, c2⟩ := c
      subst c2
      exact ⟨a, by omega, c1, q1, q2⟩
    · have f0 : inL (sl P) (pA P a q) = 0 := by
        unfold inL
        rw [p4, if_neg c]
        exact h5
      exact ih (pA P a q) k (by omega) p1 q1 q2 f0 h6
theorem in_up {P : xT} (ho : okP P) {i k : Nat} (hi : i < P.length) (h19 : xS P i = 19) (h1 : xE P (i + 1) ≤ k) (h2 : k < xE P (xE P (i + 1))) : inL (sl P) k = 1 := by
  obtain ⟨p1, p2, p3, p4⟩ := part_at ho hi (q := 1) (by omega) (by rw [h19]; decide)
  have ea : pA P i 1 = xE P (i + 1) := rfl
  rw [ea] at p1 p2 p3 p4
  rw [if_pos ⟨h19, rfl⟩] at p4
  have hm := (sub_z ho.1 (k := xE P (i + 1)) (by rw [sl_len]; exact p1) (cxK (sl P) k, (sl P).getD k (0, 0))).mpr ⟨k, h1, h2, rfl⟩
  have hc := (List.of_mem_zip hm).1
  have all := fun l => cxl_all (q := fun c => c.2.2 = 1) (fun s c hc y hy => by
    unfold kid at hy
    obtain ⟨p, -, rfl⟩ := List.mem_map.mp hy
    show (if s = 19 ∧ p = 1 then 1 else c.2.2) = 1
    split
    · rfl
    · exact hc) l [cxK (sl P) (xE P (i + 1))] (fun c hc => by rw [List.mem_singleton.mp hc, p4])
  exact all _ _ hc
def inQ (P : xT) (k i : Nat) : Bool := decide (xS P i = 19 ∧ xE P (i + 1) ≤ k ∧ k < xE P (xE P (i + 1)))
theorem inQ_in {P : xT} (ho : okP P) {k : Nat} (hk : k < P.length) : anR (inQ P k) 0 k = decide (inL (sl P) k = 1) := by
  by_cases c : inL (sl P) k = 1
  · rw [decide_eq_true c]
    cases e : anR (inQ P k) 0 k with
    | true => rfl
    | false =>
      rw [anR_f] at e
      have l0 : 0 < P.length := by omega
      have x0 : xE P 0 = P.length := by
        show enL (sl P) 0 = _
        unfold enL
        rw [List.drop_zero, isF_tk (sl P) 1 (okF_F _ _ ho.1), sl_len, Nat.zero_add]
      have i0 : inL (sl P) 0 = 0 := by
        unfold inL cxK
        have := sl_at (P := P) l0
        rw [List.drop_zero] at this
        rw [this, cxl_c]
        rfl
      obtain ⟨i, i1, i2, i3, i4⟩ := in_down ho k 0 k (by omega) l0 (by omega) (by omega) i0 c
      have := e i (by omega) (by omega)
      unfold inQ at this
      exact absurd ⟨i2, i3, i4⟩ (of_decide_eq_false this)
  · rw [decide_eq_false c, anR_f]
    intro i _ hi
    unfold inQ
    exact decide_eq_false (fun ⟨h1, h2, h3⟩ => c (in_up ho (by omega) h1 h2 h3))
set_option maxRecDepth 100000 in
set_option maxHeartbeats 4000000 in
theorem r_476l {V : Nat → Nat → Value} {I : Nat → Nat → Int32} {L : Nat → Nat → Int64} {R : Nat → Nat → Option Nat} {tl : am_H} {N k : Nat} {nt : Int32} {P : xT} (hN : 400 < N) (hA : rA V I nt P) (ho : okP P) (hk : k < P.length) : ∀ (t i K : Nat), i + t = k → t < K → fg_476_4 N K (.ref 174) (nI k) (bI (anR (inQ P k) 0 i)) (nI i) (fx V I L R ++ tl) = some (.inl (some (.int (bI (anR (inQ P k) 0 k))), fx V I L R ++ tl)) := by
  have l60 := hA.2.2.2.2
  intro t
  induction t with
  | zero =>
    intro i K hi hK
    obtain ⟨K, rfl⟩ : ∃ k, K = k + 1 := ⟨K - 1, by omega⟩
    obtain rfl : i = k := by omega
    rw [fg_476_4]
    exact ev_t (nI_le (Nat.le_refl _) (by omega)) (ev_i (bI_fit _) rfl)
  | succ t ih =>
    intro i K hi hK
    obtain ⟨K, rfl⟩ : ∃ k, K = k + 1 := ⟨K - 1, by omega⟩
    have x20 := okP_20 ho (show i < P.length by omega)
    have st : anR (inQ P k) 0 (i + 1) = (anR (inQ P k) 0 i || inQ P k (0 + i)) := rfl
    rw [Nat.zero_add] at st
    have e := ih (i + 1) K (by omega) (by omega)
    rw [fg_476_4]
    refine ev_f (nI_ge (by omega) (by omega)) (ev_b (rdR rfl) (ev_b (rA_s hA (by omega)) ?_))
    by_cases c : xS P i = 19
    · obtain ⟨p1, p2, p3, p4⟩ := part_at ho (show i < P.length by omega) (q := 1) (by omega) (by rw [c]; decide)
      have ea : pA P i 1 = xE P (i + 1) := rfl
      rw [ea] at p1 p2 p3
      have xb := xE_b (okF_F _ _ ho.1) p1
      refine ev_t (by rw [c]; rfl) (ev_i rfl (ev_cI (s393_1 hN hA (by omega)) ?_))
      have one : ∀ b : Bool, anR (inQ P k) 0 (i + 1) = b → fg_476_60 N (fg_476_4 N K) (.ref 174) (nI k) (nI i) (bI b) (fx V I L R ++ tl) = some (.inl (some (.int (bI (anR (inQ P k) 0 k))), fx V I L R ++ tl)) := fun b hb => by
        unfold fg_476_60 fg_476_61
        rw [nI_1, ← hb]
        exact e
      cases ca : anR (inQ P k) 0 i with
      | true =>
        rw [ca, Bool.true_or] at st
        exact ev_t (by decide) (one true st)
      | false =>
        rw [ca, Bool.false_or] at st
        refine ev_f (fun q => q rfl) ?_
        by_cases c1 : k < xE P (i + 1)
        · refine ev_t (nI_lt c1 (by omega)) (one false (st.trans ?_))
          unfold inQ
          exact decide_eq_false (fun q => by omega)
        · refine ev_f (nI_nlt (by omega) (by omega)) (ev_b (rdR rfl) (ev_b (rA_e hA p1) ?_))
          rw [nI_add, show xE P (i + 1) + (xE P (xE P (i + 1)) - xE P (i + 1)) = xE P (xE P (i + 1)) by omega]
          by_cases c2 : xE P (xE P (i + 1)) ≤ k
          · refine ev_t (nI_le c2 (by omega)) (one false (st.trans ?_))
            unfold inQ
            exact decide_eq_false (fun q => by omega)
          · refine ev_f (nI_ge (by omega) (by omega)) (one true (st.trans ?_))
            unfold inQ
            exact decide_eq_true ⟨c, by omega, by omega⟩
    · refine ev_f (fun q => c ((nI_eq (b := 19) (by omega) (by omega)).mp q)) ?_
      have q0 : inQ P k i = false := by
        unfold inQ
        exact decide_eq_false (fun q => c q.1)
      rw [q0, Bool.or_false] at st
      rw [st] at e
      unfold fg_476_61
      rw [nI_1]
      exact e
theorem r_476 {V : Nat → Nat → Value} {I : Nat → Nat → Int32} {L : Nat → Nat → Int64} {R : Nat → Nat → Option Nat} {tl : am_H} {N k : Nat} {nt : Int32} {P : xT} (hN : 400 < N) (hA : rA V I nt P) (ho : okP P) (hk : k < P.length) : fm_476 N (.ref 174) (nI k) (fx V I L R ++ tl) = some (.inl (some (.int (nI (inL (sl P) k))), fx V I L R ++ tl)) := by
  have l60 := hA.2.2.2.2
  have e := r_476l (V := V) (I := I) (L := L) (R := R) (tl := tl) hN hA ho hk k 0 N (by omega) (by omega)
  rw [inQ_in ho hk] at e
  have i1 := in_le1 (sl P) k
  have eb : bI (decide (inL (sl P) k = 1)) = nI (inL (sl P) k) := by
    rcases (by omega : inL (sl P) k = 0 ∨ inL (sl P) k = 1) with h | h <;> (rw [h]; rfl)
  rw [eb] at e
  exact hm_476 (hd_476_0 e)
theorem lay_un {s v : Nat → Int32} {Q : xI} {c n r : Nat} (h : lay2 s v Q) : lay2 (wA s Q.length (un c n r)) (wB v Q.length (un c n r)) (Q ++ tI (unX c n r)) := by
  intro k x hx
  by_cases c1 : k < Q.length
  · rw [List.getElem?_append_left c1] at hx
    rw [wA_lt _ _ _ _ c1, wB_lt _ _ _ _ c1]
    exact h k x hx
  · rw [List.getElem?_append_right (by omega)] at hx
    unfold tI unX at hx
    rw [List.map_map, List.getElem?_map] at hx
    cases e : (un c n r)[k - Q.length]? with
    | none => rw [e] at hx; cases hx
    | some y =>
      rw [e] at hx
      obtain ⟨hl, e2⟩ := List.getElem?_eq_some_iff.mp e
      have hd : (un c n r).drop (k - Q.length) = y :: (un c n r).drop (k - Q.length + 1) := by rw [List.drop_eq_getElem_cons hl, e2]
      have a := wA_at _ s Q.length _ y _ hd
      have b := wB_at _ v Q.length _ y _ hd
      rw [show Q.length + (k - Q.length) = k by omega] at a b
      have ex : (nI y.1, nI y.2) = x := Option.some.inj hx
      rw [← ex]
      exact ⟨a, b⟩
set_option maxRecDepth 100000 in
set_option maxHeartbeats 4000000 in
theorem s473l {V : Nat → Nat → Value} {I : Nat → Nat → Int32} {L : Nat → Nat → Int64} {R : Nat → Nat → Option Nat} {tl : am_H} {N k c n n0 fl tr : Nat} (hC : L 224 = tC) (h1 : fl ≤ 1) (h2 : tr ≤ 1) (ec : c = 2 * fl + tr) (h0 : 1 ≤ n0) (hz : nzP c n0 n) : ∀ (t m K : Nat), m + t = n → t < K → n0 ≤ m → ∃ K', fg_473_57 N K (.ref 174) (nI k) (nI m) (nI fl) (nI tr) (fx V I L R ++ tl) = fg_473_57 N (K' + 1) (.ref 174) (nI k) (nI n) (nI fl) (nI tr) (fx V I L R ++ tl) := by
  obtain ⟨z1, z2, z3, z4⟩ := hz
  intro t
  induction t with
  | zero =>
    intro m K hm hK h
    obtain ⟨K, rfl⟩ : ∃ k, K = k + 1 := ⟨K - 1, by omega⟩
    obtain rfl : m = n := by omega
    exact ⟨K, rfl⟩
  | succ t ih =>
    intro m K hm hK h
    obtain ⟨K, rfl⟩ : ∃ k, K = k + 1 := ⟨K - 1, by omega⟩
    obtain ⟨K', e⟩ := ih (m + 1) K (by omega) (by omega) (by omega)
    have x := x_383 (V := V) (I := I) (L := L) (R := R) (tl := tl) (w := fl) (t := tr) (n := m) hC (by omega) h2 (by omega)
    rw [← ec, z4 m (by omega) h] at x
    refine ⟨K', ?_⟩
    refine (?_ : fg_473_57 N (K + 1) _ _ _ _ _ _ = _).trans e
    rw [fg_473_57]
    refine ev_i rfl (ev_cL x (ev_f (fun q => q rfl) ?_))
    rw [nI_1]
set_option maxRecDepth 100000 in
set_option maxHeartbeats 4000000 in
theorem r_473 {V : Nat → Nat → Value} {I : Nat → Nat → Int32} {L : Nat → Nat → Int64} {R : Nat → Nat → Option Nat} {tl : am_H} {N k c n n0 r tr fl : Nat} {P : xT} {nt : Int32} {sd : Int64} (hN : 5000 < N) (hw : wt V) (hA : rA V I nt P) (ho : okP P) (hi : rInv V L) (h96 : V 174 96 = .long sd) (p1 : 1 ≤ P.length) (ek : k = hlf (nxt sd) % P.length) (etr : tr = truN (xS P k)) (efl : fl = inL (sl P) k) (ec : c = 2 * fl + tr) (en : n0 = 1 + hlf (nxt (nxt sd)) % 4) (hz : nzP c n0 n) (er : r = (2147483648 * hlf (nxt (nxt (nxt sd))) + hlf (nxt (nxt (nxt (nxt sd))))) % uT c n) : ∃ W J M, fm_473 N (.ref 174) (fx V I L R ++ tl) = some (.inl (none, fx W J M R ++ tl)) ∧ dkL W J (if sndB 0 (tI (P.take k ++ (unX c n r ++ P.drop (xE P k)))) = true then tI (P.take k ++ (unX c n r ++ P.drop (xE P k))) else tI P) ∧ W 174 13 = .int 0 ∧ W 174 15 = .int nt ∧ (∀ a j, ¬ (a = 174 ∧ (j = 13 ∨ j = 14 ∨ j = 15 ∨ j = 80 ∨ j = 88 ∨ j = 96)) → W a j = V a j) ∧ (∀ y, ¬ y ∈ [186, 187, 194, 195, 196, 211, 227, 228, 229] → J y = I y) ∧ (∀ y, y ≠ 224 → y ≠ 225 → y ≠ 226 → y ≠ 230 → M y = L y) ∧ W 174 80 = .int 1 ∧ M 224 = tC ∧ M 225 = tS ∧ wt W := by
  have l60 := hA.2.2.2.2
  have hk : k < P.length := by rw [ek]; exact Nat.mod_lt _ (by omega)
  have x20 := okP_20 ho hk
  have tr1 : tr ≤ 1 := by rw [etr]; unfold truN; split <;> omega
  have fl1 : fl ≤ 1 := by rw [efl]; exact in_le1 _ _
  have c4 : c < 4 := by omega
  have n0b : 1 ≤ n0 ∧ n0 ≤ 4 := by
    have := Nat.mod_lt (hlf (nxt (nxt sd))) (show 0 < 4 by decide)
    omega
  have n1 : 1 ≤ n := by have := hz.1; omega
  have n12 := hz.2.1
  have hu := (u_c (n := n) (c := c) n1 n12 (by omega)).2
  have u1 : 1 ≤ uT c n := Nat.pos_of_ne_zero hz.2.2.1
  have hr : r < uT c n := by rw [er]; exact Nat.mod_lt _ (by omega)
  obtain ⟨g1, g2, g3, g4⟩ := unX_ok (tr := tr) (fl := fl) n1 n12 c4 hr (by omega) (by omega)
  have xel := xE_b (okF_F _ _ ho.1) hk
  -- the draws
  have d1 := x_474 (V := V) (I := I) (L := L) (R := R) (tl := tl) (k := P.length) h96 p1 (by omega)
  rw [← ek] at d1
  obtain ⟨V1, eV1⟩ : ∃ X, X = vup V 174 96 (.long (nxt sd)) := ⟨_, rfl⟩
  rw [← eV1] at d1
  have d2 := x_474 (V := V1) (I := I) (L := L) (R := R) (tl := tl) (k := 4) (st := nxt sd) (by rw [eV1]; exact vup_eq) (by omega) (by omega)
  obtain ⟨V2, eV2⟩ : ∃ X, X = vup V 174 96 (.long (nxt (nxt sd))) := ⟨_, rfl⟩
  rw [show vup V1 174 96 (.long (nxt (nxt sd))) = V2 by rw [eV1, eV2, vup_2]] at d2
  have w2 : wt V2 := by rw [eV2]; exact wt_lg hw (by decide)
  have v2 : ∀ a j, ¬ (a = 174 ∧ j = 96) → V2 a j = V a j := fun a j h => by rw [eV2]; exact vup_o h
  have hA2 : rA V2 I nt P := ⟨(v2 174 20 (by decide)).trans hA.1, (v2 174 19 (by decide)).trans hA.2.1, ⟨(v2 174 18 (by decide)).trans hA.2.2.1.1, hA.2.2.1.2⟩, hA.2.2.2⟩
  have e6 := r_476 (V := V2) (I := I) (L := L) (R := R) (tl := tl) (N := N) (by omega) hA2 ho hk
  rw [← efl] at e6
  obtain ⟨W3, M3, e7, w80, m4, m5, f1, f2, ww⟩ := x_377w (V := V2) (I := I) (L := L) (R := R) (tl := tl) (N := N) (by omega) (rInv_v (v2 174 80 (by decide)) hi) w2
  obtain ⟨K', e8⟩ := s473l (V := W3) (I := I) (L := M3) (R := R) (tl := tl) (N := N) (k := k) m4 fl1 tr1 ec n0b.1 hz (n - n0) n0 N (by have := hz.1; omega) (by omega) (Nat.le_refl _)
  have e9 := x_383 (V := W3) (I := I) (L := M3) (R := R) (tl := tl) (w := fl) (t := tr) (n := n) m4 (by omega) tr1 n12
  rw [← ec] at e9
  have h96' : W3 174 96 = .long (nxt (nxt sd)) := (f1 174 96 (by decide)).trans (by rw [eV2]; exact vup_eq)
  have d3 := x_477 (V := W3) (I := I) (L := M3) (R := R) (tl := tl) (T := uT c n) h96' u1 hu
  rw [← er] at d3
  obtain ⟨W4, eW4⟩ : ∃ X, X = vup W3 174 96 (.long (nxt (nxt (nxt (nxt sd))))) := ⟨_, rfl⟩
  rw [← eW4] at d3
  have v4 : ∀ a j, ¬ (a = 174 ∧ (j = 96 ∨ j = 80)) → W4 a j = V a j := fun a j h => by
    rw [eW4, vup_o (fun q => h ⟨q.1, .inl q.2⟩), f1 a j (fun q => h ⟨q.1, .inr q.2⟩), v2 a j (fun q => h ⟨q.1, .inl q.2⟩)]
  obtain ⟨W5, e10, dk5, a13, a15, fr5⟩ := s451 (V := W4) (I := I) (L := M3) (R := R) (tl := tl) (kd := 0) (nt := nt) ((v4 174 20 (by decide)).trans hA.1) ((v4 174 19 (by decide)).trans hA.2.1)
  have v5 : ∀ a j, ¬ (a = 174 ∧ (j = 13 ∨ j = 14 ∨ j = 15 ∨ j = 80 ∨ j = 88 ∨ j = 96)) → W5 a j = V a j := fun a j h => (fr5.1 a j (fun q => h ⟨q.1, by omega⟩)).trans (v4 a j (fun q => h ⟨q.1, by omega⟩))
  have dsA5 : dsA W5 I (tI P) := ⟨(v5 174 18 (by decide)).trans hA.2.2.1.1, hA.2.2.1.2⟩
  have lt : (tI P).length = P.length := tI_len
  obtain ⟨W6, J6, e11, dk6, fr6⟩ := s443 (V := W5) (I := I) (L := M3) (R := R) (tl := tl) (N := N) (i := 0) (j := k) (P := tI P) (Q := []) 0 (nI k) rfl rfl (by omega) (by omega) (by omega) (by omega) dsA5 dk5 (by show 0 + _ ≤ 400; omega)
  rw [List.nil_append, sg_0] at dk6
  have lq : ((tI P).take k).length = k := by rw [List.length_take]; omega
  have w5 : wt W5 := fr5.2.2 (by rw [eW4]; exact wt_lg ww (by decide))
  have w6 : wt W6 := fr6.2.2 w5
  obtain ⟨x88, hx88⟩ := w6.1 174 88 (by decide)
  obtain ⟨k0, rfl⟩ := nI_all x88
  have h14 : W6 174 14 = .int (nI k) := by rw [dk6.1, lq]
  have hgs := gS_of (V := W6) (I := J6) (L := M3) (R := R) (tl := tl) (s := k) (k := k0) h14 hx88
  have w680 : W6 174 80 = .int 1 := by
    rw [fr6.1 174 80 (by decide), fr5.1 174 80 (by decide), eW4, vup_nj (by decide)]
    exact w80
  obtain ⟨c', d', e', p', g⟩ := g_386 (V := W6) (I := J6) (L := M3) (R := R) (tl := tl) m4 m5 w680 (N := N) (w := fl) (t := tr) (n := n) (P := r) (s0 := k) (k0 := k0) (a := J6 186) (b := J6 187) (c := J6 227) (d := J6 228) (e := J6 229) (p := M3 230) (by omega) (by omega) (by omega) n1 n12 (by rw [← ec]; exact hr) (by omega)
  rw [← ec] at g
  obtain ⟨V7, hV7⟩ : ∃ V7, V7 = vup (vup W6 174 14 (.int (nI (k + n)))) 174 88 (.int (nI 0)) := ⟨_, rfl⟩
  obtain ⟨J7, hJ7⟩ : ∃ J7, J7 = iup (iup (iup (iup (iup J6 186 (wA (J6 186) k (un c n r))) 187 (wB (J6 187) k (un c n r))) 227 c') 228 d') 229 e' := ⟨_, rfl⟩
  obtain ⟨M7, hM7⟩ : ∃ M7, M7 = lup M3 230 p' := ⟨_, rfl⟩
  have hg7 : gS W6 J6 M3 R tl (k + n) 0 (wA (J6 186) k (un c n r)) (wB (J6 187) k (un c n r)) c' d' e' p' = fx V7 J7 M7 R ++ tl := by
    rw [hV7, hJ7, hM7]
    rfl
  rw [hg7, ← hgs] at g
  have j7 : ∀ y, y ≠ 186 → y ≠ 187 → y ≠ 227 → y ≠ 228 → y ≠ 229 → J7 y = I y := fun y a1 a2 a3 a4 a5 => by
    rw [hJ7, iup_na a5, iup_na a4, iup_na a3, iup_na a2, iup_na a1]
    exact fr6.2.1 y a1 a2
  have v7 : ∀ a j, ¬ (a = 174 ∧ (j = 13 ∨ j = 14 ∨ j = 15 ∨ j = 80 ∨ j = 88 ∨ j = 96)) → V7 a j = V a j := fun a j h => by
    rw [hV7, vup_o (fun q => h ⟨q.1, by omega⟩), vup_o (fun q => h ⟨q.1, by omega⟩), fr6.1 a j (fun q => h ⟨q.1, by omega⟩)]
    exact v5 a j h
  have dk7 : dkL V7 J7 ((tI P).take k ++ tI (unX c n r)) := by
    refine ⟨?_, ?_⟩
    · rw [List.length_append, lq, tI_len, g1, hV7]
      exact (vup_nj (by decide)).trans vup_eq
    · have l := lay_un (c := c) (n := n) (r := r) dk6.2
      rw [lq] at l
      rw [hJ7, iup_na (by decide), iup_na (by decide), iup_na (by decide), iup_na (by decide), iup_eq, iup_na (by decide), iup_na (by decide), iup_na (by decide), iup_eq]
      exact l
  have hA7 : rA V7 J7 nt P := ⟨(v7 174 20 (by decide)).trans hA.1, (v7 174 19 (by decide)).trans hA.2.1, ⟨(v7 174 18 (by decide)).trans hA.2.2.1.1, by rw [j7 188 (by decide) (by decide) (by decide) (by decide) (by decide), j7 189 (by decide) (by decide) (by decide) (by decide) (by decide)]; exact hA.2.2.1.2⟩, by rw [j7 192 (by decide) (by decide) (by decide) (by decide) (by decide)]; exact hA.2.2.2.1, l60⟩
  obtain ⟨W8, J8, e12, dk8, fr8⟩ := s443 (V := V7) (I := J7) (L := M7) (R := R) (tl := tl) (N := N) (i := xE P k) (j := P.length) (P := tI P) (Q := (tI P).take k ++ tI (unX c n r)) (nI (xE P k)) (nI P.length) rfl rfl (by omega) xel.2 (by omega) (by omega) hA7.2.2.1 dk7 (by rw [List.length_append, lq, tI_len, g1]; omega)
  have eX : (tI P).take k ++ tI (unX c n r) ++ sg (tI P) (xE P k) P.length = tI (P.take k ++ (unX c n r ++ P.drop (xE P k))) := by
    rw [← lt, sg_n, tI_app, tI_app, List.append_assoc]
    unfold tI
    rw [List.map_take, List.map_drop]
  rw [eX] at dk8
  have a13' : W8 174 13 = .int (nI 0) := by
    rw [fr8.1 174 13 (by decide), hV7, vup_nj (by decide), vup_nj (by decide), fr6.1 174 13 (by decide)]
    exact a13
  have a15' : W8 174 15 = .int nt := by
    rw [fr8.1 174 15 (by decide), hV7, vup_nj (by decide), vup_nj (by decide), fr6.1 174 15 (by decide)]
    exact a15
  obtain ⟨J9, e13, fr9⟩ := s445 (V := W8) (I := J8) (L := M7) (R := R) (tl := tl) (N := N) (kd := 0) (by omega) (rp_frm (P := P) (m := unX c n r) (k := k) (okP_20b ho) (okF_F _ _ ho.1) hk l60 (by rw [g1]; omega) (fun x hx => (g4 x hx).1) g2 : frm 0 (tI (P.take k ++ (unX c n r ++ P.drop (xE P k))))) dk8 a13'
  have v8 : ∀ a j, ¬ (a = 174 ∧ (j = 13 ∨ j = 14 ∨ j = 15 ∨ j = 80 ∨ j = 88 ∨ j = 96)) → W8 a j = V a j := fun a j h => (fr8.1 a j (fun q => h ⟨q.1, by omega⟩)).trans (v7 a j h)
  have j9 : ∀ y, ¬ y ∈ [186, 187, 194, 195, 196, 211, 227, 228, 229] → J9 y = I y := fun y h => by
    have hn : y ≠ 186 ∧ y ≠ 187 ∧ y ≠ 194 ∧ y ≠ 195 ∧ y ≠ 196 ∧ y ≠ 211 ∧ y ≠ 227 ∧ y ≠ 228 ∧ y ≠ 229 := by
      refine ⟨?_, ?_, ?_, ?_, ?_, ?_, ?_, ?_, ?_⟩ <;> (intro e; subst e; exact h (by decide))
    obtain ⟨h1, h2, h3, h4, h5, h6, h7, h8, h9⟩ := hn
    rw [fr9 y h3 h4 h5 h6, fr8.2.1 y h1 h2, j7 y h1 h2 h7 h8 h9]
  have m7 : ∀ y, y ≠ 224 → y ≠ 225 → y ≠ 226 → y ≠ 230 → M7 y = L y := fun y h1 h2 h3 h4 => by rw [hM7, lup_na h4]; exact f2 y h1 h2 h3
  have w8 : wt W8 := fr8.2.2 (by rw [hV7]; exact wt_i (wt_i w6 (by decide)) (by decide))
  have w880 : W8 174 80 = .int 1 := by
    rw [fr8.1 174 80 (by decide), hV7, vup_nj (by decide), vup_nj (by decide)]
    exact w680
  have mC : M7 224 = tC := by rw [hM7, lup_na (by decide)]; exact m4
  have mS : M7 225 = tS := by rw [hM7, lup_na (by decide)]; exact m5
  have pre : ∀ o, (if ¬ bI (sndB 0 (tI (P.take k ++ (unX c n r ++ P.drop (xE P k))))) = 0 then (fg_473_140 N (fx W8 J9 M7 R ++ tl)) else (if am_pOk 12 (.ref 174) (fx W8 J9 M7 R ++ tl) then am_cV true (fm_442 N (.ref 174) (fx W8 J9 M7 R ++ tl)) (fun h43 => (fg_473_140 N h43)) else none)) = o → fm_473 N (.ref 174) (fx V I L R ++ tl) = o := fun o k_ => by
    have t57 : fg_473_57 N (K' + 1) (.ref 174) (nI k) (nI n) (nI fl) (nI tr) (fx W3 I M3 R ++ tl) = o := by
      rw [fg_473_57]
      refine ev_i rfl (ev_cL e9 (ev_t (fun q => hz.2.2.1 ((lN_cz (by omega)).mp q)) (ev_i rfl (ev_cL e9 (ev_i rfl (ev_cL d3 (ev_i rfl (ev_cV e10 (ev_i rfl (ev_cV e11 (ev_i rfl (ev_cV g (ev_b (rdR rfl) (ev_b (rA_e hA7 hk) (ev_b (rdI (rA_18 hA7)) (ev_i rfl ?_))))))))))))))))
      rw [nI_add, show k + (xE P k - k) = xE P k by omega]
      exact ev_cV e12 (ev_i rfl (ev_cI e13 k_))
    have t51 : fg_473_51 N (.ref 174) (nI k) (nI n0) (nI fl) (nI tr) (fx V2 I L R ++ tl) = o := hd_473_51 (ev_i rfl (ev_cV e7 (e8.trans t57)))
    have t32 : fg_473_32 N (.ref 174) (nI k) (nI n0) (nI fl) (fx V2 I L R ++ tl) = o := by
      apply hd_473_32
      refine ev_b (rdR rfl) (ev_b (rA_s hA2 hk) (ev_cI (pe_334 _ _) ?_))
      rw [tr_eq _ (by omega), ← etr]
      rcases (by omega : tr = 0 ∨ tr = 1) with h | h
      · rw [h] at t51 ⊢
        exact ev_t rfl t51
      · rw [h] at t51 ⊢
        exact ev_f (by decide) t51
    apply hm_473
    apply hd_473_0
    refine ev_b (rdI (rA_18 hA)) (ev_i rfl (ev_cI d1 (ev_i rfl (ev_cI d2 (ev_i rfl (ev_cI e6 ?_))))))
    rw [show (1 : Int32) + nI (hlf (nxt (nxt sd)) % 4) = nI n0 by rw [show (1 : Int32) = nI 1 from rfl, nI_add, en]]
    rcases (by omega : fl = 0 ∨ fl = 1) with h | h
    · rw [h] at t32 ⊢
      exact ev_t rfl t32
    · rw [h] at t32 ⊢
      exact ev_f (by decide) t32
  cases sb : sndB 0 (tI (P.take k ++ (unX c n r ++ P.drop (xE P k)))) with
  | true =>
    rw [sb] at pre
    rw [if_pos rfl]
    refine ⟨W8, J9, M7, pre _ (ev_t (by decide) rfl), ⟨dk8.1, by rw [fr9 186 (by decide) (by decide) (by decide) (by decide), fr9 187 (by decide) (by decide) (by decide) (by decide)]; exact dk8.2⟩, a13', a15', v8, j9, m7, w880, mC, mS, w8⟩
  | false =>
    rw [sb] at pre
    rw [if_neg (by decide)]
    obtain ⟨W10, J10, e14, dk10, b13, b15, fr10⟩ := s442 (V := W8) (I := J9) (L := M7) (R := R) (tl := tl) (N := N) (kd := 0) (nt := nt) (P := tI P) (by omega) ((v8 174 20 (by decide)).trans hA.1) ((v8 174 19 (by decide)).trans hA.2.1) ⟨(v8 174 18 (by decide)).trans hA.2.2.1.1, by rw [j9 188 (by decide), j9 189 (by decide)]; exact hA.2.2.1.2⟩ (by omega)
    refine ⟨W10, J10, M7, pre _ (ev_f (fun q => q rfl) (ev_i rfl (ev_cV e14 rfl))), dk10, b13, b15, fun a j h => (fr10.1 a j (fun q => h ⟨q.1, by omega⟩)).trans (v8 a j h), fun y h => ?_, m7, (fr10.1 174 80 (by decide)).trans w880, mC, mS, fr10.2.2 w8⟩
    rw [fr10.2.1 y (fun e => by subst e; exact h (by decide)) (fun e => by subst e; exact h (by decide))]
    exact j9 y h
