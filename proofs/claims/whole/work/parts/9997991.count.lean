/-! ===== edits: the class counts them and picks one ===== -/
theorem hd_162_26 {N : Nat} {rec_4 : Value → Int32 → Int32 → am_H → Option am_O} {x0 : Value} {x2 : Int32} {s0 : Int32} {s1 : Int32} {h : am_H} {r_ : Option am_O} (k_ : (rec_4 x0 ((s0 + s1)) ((x2 + 1)) h) = r_) : fg_162_26 N rec_4 x0 x2 s0 s1 h = r_ := k_
theorem hd_162_4 {N : Nat} {K : Nat} {x0 : Value} {x1 : Int32} {x2 : Int32} {h : am_H} {r_ : Option am_O} (k_ : ((am_vI (am_pG 9 x0 h)).bind fun v1 => (if v1 ≤ x2 then some (.inl (some (.int x1), h)) else (if am_pOk 0 x0 h then am_cI true (fm_163 N x0 x2 h) (fun v5 h6 => (if v5 = 0 then (fg_162_26 N (fg_162_4 N K) x0 x2 x1 0 h6) else (fg_162_26 N (fg_162_4 N K) x0 x2 x1 1 h6))) else none))) = r_) : fg_162_4 N (K + 1) x0 x1 x2 h = r_ := by rw [fg_162_4]; exact k_
theorem hd_162_0 {N : Nat} {x0 : Value} {h : am_H} {r_ : Option am_O} (k_ : (fg_162_4 N N x0 0 0 h) = r_) : fg_162_0 N x0 h = r_ := k_
theorem hm_162 {N : Nat} {y0 : Value} {h : am_H} {r_ : Option am_O} (k_ : fg_162_0 N y0 h = r_) : fm_162 N y0 h = r_ := k_
theorem hd_187_39 {N : Nat} {h : am_H} {r_ : Option am_O} (k_ : some (.inl (some (.int 0), h)) = r_) : fg_187_39 N h = r_ := k_
theorem hd_187_33 {N : Nat} {rec_4 : Value → Int32 → Int32 → am_H → Option am_O} {x0 : Value} {x2 : Int32} {x3 : Int32} {h : am_H} {r_ : Option am_O} (k_ : (rec_4 x0 x2 ((x3 + 1)) h) = r_) : fg_187_33 N rec_4 x0 x2 x3 h = r_ := k_
theorem hd_187_4 {N : Nat} {K : Nat} {x0 : Value} {x2 : Int32} {x3 : Int32} {h : am_H} {r_ : Option am_O} (k_ : ((am_vI (am_pG 9 x0 h)).bind fun v1 => (if v1 ≤ x3 then (fg_187_39 N h) else (if x2 < 0 then (fg_187_39 N h) else (if am_pOk 0 x0 h then am_cI true (fm_163 N x0 x3 h) (fun v6 h7 => (if v6 = 0 then (fg_187_33 N (fg_187_4 N K) x0 x2 x3 h7) else (if ¬ x2 = 0 then (fg_187_33 N (fg_187_4 N K) x0 ((x2 + (-1))) x3 h7) else some (.inl (some (.int 1), h7))))) else none)))) = r_) : fg_187_4 N (K + 1) x0 x2 x3 h = r_ := by rw [fg_187_4]; exact k_
theorem hd_187_0 {N : Nat} {x0 : Value} {x1 : Int32} {h : am_H} {r_ : Option am_O} (k_ : (fg_187_4 N N x0 x1 0 h) = r_) : fg_187_0 N x0 x1 h = r_ := k_
theorem hm_187 {N : Nat} {y0 : Value} {y1 : Int32} {h : am_H} {r_ : Option am_O} (k_ : fg_187_0 N y0 y1 h = r_) : fm_187 N y0 y1 h = r_ := k_
theorem cnt_s2 (cd : Nat → Option xI) (m c : Nat) : cnt cd (m + 1) c = (if (cd c).isSome = true then 1 else 0) + cnt cd m (c + 1) := rfl
theorem nC_le {n c : Nat} {nC : Int32} (hn : n ≤ 4500) (hC : nC = nI n ∨ (n = 0 ∧ nC ≤ 0)) (hc : n ≤ c) (h2 : c < 10000) : nC ≤ nI c := by
  rcases hC with h | ⟨-, h⟩
  · rw [h]; exact nI_le hc (by omega)
  · exact Int32.le_trans h (nI_le (a := 0) (Nat.zero_le c) (by omega))
theorem nC_gt {n c : Nat} {nC : Int32} (hn : n ≤ 4500) (hC : nC = nI n ∨ (n = 0 ∧ nC ≤ 0)) (hc : c < n) : ¬ nC ≤ nI c := by
  rcases hC with h | ⟨h, -⟩
  · rw [h]; exact nI_ge hc (by omega)
  · omega
set_option maxRecDepth 100000 in
set_option maxHeartbeats 4000000 in
theorem l162 {L : Nat → Nat → Int64} {R : Nat → Nat → Option Nat} {tl : am_H} {N : Nat}{kd ln n : Nat} {nC : Int32} {cd : Nat → Option xI} {S : (Nat → Nat → Value) → (Nat → Nat → Int32) → Prop} (hn : n ≤ 4500) (hC : nC = nI n ∨ (n = 0 ∧ nC ≤ 0)) (hS : ∀ V W I J, S V I → frM V W I J → S W J) (hm : ∀ V I, S V I → ∀ c, c < n → ∃ W J b, fm_163 N (.ref 89) (nI c) (fx V I L R ++ tl) = some (.inl (some (.int (bI b)), fx W J L R ++ tl)) ∧ outE W J kd ln (cd c) b ∧ frM V W I J) : ∀ (m c K y : Nat) (V : Nat → Nat → Value) (I : Nat → Nat → Int32), c + m = n → m < K → y ≤ c → S V I → V 89 9 = .int nC → ∃ W J, fg_162_4 N K (.ref 89) (nI y) (nI c) (fx V I L R ++ tl) = some (.inl (some (.int (nI (y + cnt cd m c))), fx W J L R ++ tl)) ∧ S W J ∧ frM V W I J := by
  intro m
  induction m with
  | zero =>
    intro c K y V I h hK hy hs h9
    obtain ⟨K, rfl⟩ : ∃ k, K = k + 1 := ⟨K - 1, by omega⟩
    exact ⟨V, I, hd_162_4 (ev_b (rdI h9) (ev_t (nC_le hn hC (by omega) (by omega)) rfl)), hs, frM_r⟩
  | succ m ih =>
    intro c K y V I h hK hy hs h9
    obtain ⟨K, rfl⟩ : ∃ k, K = k + 1 := ⟨K - 1, by omega⟩
    obtain ⟨W, J, b, e, o, f⟩ := hm V I hs c (by omega)
    have h9' : W 89 9 = .int nC := (f.1 89 9 (by decide) (by decide) (by decide) (by decide)).trans h9
    cases b with
    | false =>
      obtain ⟨W', J', e', s', f'⟩ := ih (c + 1) K y W J (by omega) (by omega) (by omega) (hS _ _ _ _ hs f) h9'
      have hz : ¬ (cd c).isSome = true := fun e => Bool.noConfusion (o.1.mpr e)
      refine ⟨W', J', ?_, s', frM_t f f'⟩
      rw [cnt_s2, if_neg hz, Nat.zero_add]
      apply hd_162_4
      refine ev_b (rdI h9) (ev_f (nC_gt hn hC (by omega)) (ev_i rfl (ev_cI e (ev_t rfl ?_))))
      apply hd_162_26
      rw [show nI y + 0 = nI y from nI_add y 0, nI_1]
      exact e'
    | true =>
      have hz : (cd c).isSome = true := o.1.mp rfl
      obtain ⟨W', J', e', s', f'⟩ := ih (c + 1) K (y + 1) W J (by omega) (by omega) (by omega) (hS _ _ _ _ hs f) h9'
      refine ⟨W', J', ?_, s', frM_t f f'⟩
      rw [cnt_s2, if_pos hz, ← Nat.add_assoc]
      apply hd_162_4
      refine ev_b (rdI h9) (ev_f (nC_gt hn hC (by omega)) (ev_i rfl (ev_cI e (ev_f (by decide) ?_))))
      apply hd_162_26
      rw [nI_1, nI_1]
      exact e'
set_option maxRecDepth 100000 in
set_option maxHeartbeats 4000000 in
theorem s162 {L : Nat → Nat → Int64} {R : Nat → Nat → Option Nat} {tl : am_H} {N : Nat}{kd ln n : Nat} {nC : Int32} {cd : Nat → Option xI} {S : (Nat → Nat → Value) → (Nat → Nat → Int32) → Prop} (hn : n ≤ 4500) (hC : nC = nI n ∨ (n = 0 ∧ nC ≤ 0)) (hS : ∀ V W I J, S V I → frM V W I J → S W J) (hm : ∀ V I, S V I → ∀ c, c < n → ∃ W J b, fm_163 N (.ref 89) (nI c) (fx V I L R ++ tl) = some (.inl (some (.int (bI b)), fx W J L R ++ tl)) ∧ outE W J kd ln (cd c) b ∧ frM V W I J){V : Nat → Nat → Value} {I : Nat → Nat → Int32} (hN : 5000 < N) (hs : S V I) (h9 : V 89 9 = .int nC) : ∃ W J, fm_162 N (.ref 89) (fx V I L R ++ tl) = some (.inl (some (.int (nI (cnt cd n 0))), fx W J L R ++ tl)) ∧ S W J ∧ frM V W I J := by
  obtain ⟨W, J, e, s, f⟩ := l162 hn hC hS hm n 0 N 0 V I (by omega) (by omega) (by omega) hs h9
  rw [Nat.zero_add] at e
  exact ⟨W, J, hm_162 (hd_162_0 e), s, f⟩
set_option maxRecDepth 100000 in
set_option maxHeartbeats 4000000 in
theorem l187 {L : Nat → Nat → Int64} {R : Nat → Nat → Option Nat} {tl : am_H} {N : Nat}{kd ln n : Nat} {nC : Int32} {cd : Nat → Option xI} {S : (Nat → Nat → Value) → (Nat → Nat → Int32) → Prop} (hn : n ≤ 4500) (hC : nC = nI n ∨ (n = 0 ∧ nC ≤ 0)) (hS : ∀ V W I J, S V I → frM V W I J → S W J) (hm : ∀ V I, S V I → ∀ c, c < n → ∃ W J b, fm_163 N (.ref 89) (nI c) (fx V I L R ++ tl) = some (.inl (some (.int (bI b)), fx W J L R ++ tl)) ∧ outE W J kd ln (cd c) b ∧ frM V W I J) : ∀ (m c K y : Nat) (V : Nat → Nat → Value) (I : Nat → Nat → Int32), c + m = n → m < K → y < 2 ^ 31 → S V I → V 89 9 = .int nC → ∃ W J b, fg_187_4 N K (.ref 89) (nI y) (nI c) (fx V I L R ++ tl) = some (.inl (some (.int (bI b)), fx W J L R ++ tl)) ∧ (b = true ↔ y < cnt cd m c) ∧ (b = true → ∃ d Q, c ≤ d ∧ d < n ∧ cd d = some Q ∧ cnt cd (d - c) c = y ∧ holdE W J 90 kd ln Q ∧ Q.length ≤ 60) ∧ S W J ∧ frM V W I J := by
  intro m
  induction m with
  | zero =>
    intro c K y V I h hK hy hs h9
    obtain ⟨K, rfl⟩ : ∃ k, K = k + 1 := ⟨K - 1, by omega⟩
    exact ⟨V, I, false, hd_187_4 (ev_b (rdI h9) (ev_t (nC_le hn hC (by omega) (by omega)) (hd_187_39 rfl))), ⟨fun e => Bool.noConfusion e, fun e => absurd e (Nat.not_lt_zero y)⟩, fun e => Bool.noConfusion e, hs, frM_r⟩
  | succ m ih =>
    intro c K y V I h hK hy hs h9
    obtain ⟨K, rfl⟩ : ∃ k, K = k + 1 := ⟨K - 1, by omega⟩
    obtain ⟨W, J, b, e, o, f⟩ := hm V I hs c (by omega)
    have h9' : W 89 9 = .int nC := (f.1 89 9 (by decide) (by decide) (by decide) (by decide)).trans h9
    have hs' := hS _ _ _ _ hs f
    cases b with
    | false =>
      obtain ⟨W', J', b', e', i', d', s', f'⟩ := ih (c + 1) K y W J (by omega) (by omega) hy hs' h9'
      have hz : ¬ (cd c).isSome = true := fun e => Bool.noConfusion (o.1.mpr e)
      refine ⟨W', J', b', ?_, ?_, fun hb => ?_, s', frM_t f f'⟩
      · apply hd_187_4
        refine ev_b (rdI h9) (ev_f (nC_gt hn hC (by omega)) (ev_f (nI_pos hy) (ev_i rfl (ev_cI e (ev_t rfl ?_)))))
        apply hd_187_33
        rw [nI_1]
        exact e'
      · rw [cnt_s2, if_neg hz, Nat.zero_add]; exact i'
      · obtain ⟨d, Q, d1, d2, d3, d4, d5⟩ := d' hb
        refine ⟨d, Q, by omega, d2, d3, ?_, d5⟩
        rw [show d - c = (d - (c + 1)) + 1 by omega, cnt_s2, if_neg hz, Nat.zero_add]
        exact d4
    | true =>
      have hz : (cd c).isSome = true := o.1.mp rfl
      by_cases y0 : y = 0
      · subst y0
        obtain ⟨Q, hQ⟩ := Option.isSome_iff_exists.mp hz
        refine ⟨W, J, true, ?_, ⟨fun _ => by rw [cnt_s2, if_pos hz]; omega, fun _ => rfl⟩, fun _ => ⟨c, Q, Nat.le_refl _, by omega, hQ, by rw [Nat.sub_self]; rfl, o.2 Q hQ⟩, hs', f⟩
        apply hd_187_4
        exact ev_b (rdI h9) (ev_f (nC_gt hn hC (by omega)) (ev_f (nI_pos hy) (ev_i rfl (ev_cI e (ev_f (by decide) (ev_f (fun e => e rfl) rfl))))))
      · obtain ⟨W', J', b', e', i', d', s', f'⟩ := ih (c + 1) K (y - 1) W J (by omega) (by omega) (by omega) hs' h9'
        refine ⟨W', J', b', ?_, ?_, fun hb => ?_, s', frM_t f f'⟩
        · apply hd_187_4
          refine ev_b (rdI h9) (ev_f (nC_gt hn hC (by omega)) (ev_f (nI_pos hy) (ev_i rfl (ev_cI e (ev_f (by decide) (ev_t (fun e => y0 ((nI_eq (b := 0) hy (by decide)).mp e)) ?_))))))
          apply hd_187_33
          rw [nI_1, show nI y + (-1) = nI (y - 1) by rw [← Int32.sub_eq_add_neg]; exact nI_sub (b := 1) (by omega)]
          exact e'
        · rw [cnt_s2, if_pos hz, i']; omega
        · obtain ⟨d, Q, d1, d2, d3, d4, d5⟩ := d' hb
          refine ⟨d, Q, by omega, d2, d3, ?_, d5⟩
          rw [show d - c = (d - (c + 1)) + 1 by omega, cnt_s2, if_pos hz, d4]
          omega
set_option maxRecDepth 100000 in
set_option maxHeartbeats 4000000 in
theorem s187 {L : Nat → Nat → Int64} {R : Nat → Nat → Option Nat} {tl : am_H} {N : Nat}{kd ln n : Nat} {nC : Int32} {cd : Nat → Option xI} {S : (Nat → Nat → Value) → (Nat → Nat → Int32) → Prop} (hn : n ≤ 4500) (hC : nC = nI n ∨ (n = 0 ∧ nC ≤ 0)) (hS : ∀ V W I J, S V I → frM V W I J → S W J) (hm : ∀ V I, S V I → ∀ c, c < n → ∃ W J b, fm_163 N (.ref 89) (nI c) (fx V I L R ++ tl) = some (.inl (some (.int (bI b)), fx W J L R ++ tl)) ∧ outE W J kd ln (cd c) b ∧ frM V W I J){V : Nat → Nat → Value} {I : Nat → Nat → Int32} {y : Nat} (hN : 5000 < N) (hy : y < 2 ^ 31) (hs : S V I) (h9 : V 89 9 = .int nC) : ∃ W J b, fm_187 N (.ref 89) (nI y) (fx V I L R ++ tl) = some (.inl (some (.int (bI b)), fx W J L R ++ tl)) ∧ (b = true ↔ y < cnt cd n 0) ∧ (b = true → ∃ d Q, d < n ∧ cd d = some Q ∧ cnt cd d 0 = y ∧ holdE W J 90 kd ln Q ∧ Q.length ≤ 60) ∧ S W J ∧ frM V W I J := by
  obtain ⟨W, J, b, e, i, d, s, f⟩ := l187 hn hC hS hm n 0 N y V I (by omega) (by omega) hy hs h9
  refine ⟨W, J, b, hm_187 (hd_187_0 e), i, fun hb => ?_, s, f⟩
  obtain ⟨d, Q, -, d2, d3, d4, d5⟩ := d hb
  rw [Nat.sub_zero] at d4
  exact ⟨d, Q, d2, d3, d4, d5⟩
theorem s187n {L : Nat → Nat → Int64} {R : Nat → Nat → Option Nat} {tl : am_H} {N : Nat}{V : Nat → Nat → Value} {I : Nat → Nat → Int32} {nC x : Int32} (hN : 10 < N) (hx : x < 0) (h9 : V 89 9 = .int nC) : fm_187 N (.ref 89) x (fx V I L R ++ tl) = some (.inl (some (.int (bI false)), fx V I L R ++ tl)) := by
  obtain ⟨K, rfl⟩ : ∃ k, N = k + 1 := ⟨N - 1, by omega⟩
  apply hm_187
  apply hd_187_0
  apply hd_187_4
  refine ev_b (rdI h9) ?_
  by_cases c : nC ≤ 0
  · exact ev_t c (hd_187_39 rfl)
  · exact ev_f c (ev_t hx (hd_187_39 rfl))
