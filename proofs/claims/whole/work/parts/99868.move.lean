/-! ===== move ===== -/
/-- the worst from p on -/
def wsF (bt : Nat → Nat → Bool) : Nat → Nat → Nat → Nat
  | 0, _, b => b
  | m + 1, p, b => wsF bt m (p + 1) (if bt b p = true then p else b)
theorem wsF_lt {bt : Nat → Nat → Bool} {c : Nat} : ∀ (m p b : Nat), p + m = c → b < c → wsF bt m p b < c := by
  intro m
  induction m with
  | zero => intro p b _ hb; exact hb
  | succ m ih =>
    intro p b hp hb
    rw [wsF]
    by_cases c1 : bt b p = true
    · rw [if_pos c1]; exact ih _ _ (by omega) (by omega)
    · rw [if_neg c1]; exact ih _ _ (by omega) hb
set_option maxRecDepth 100000 in
set_option maxHeartbeats 1600000 in
theorem c_233l {V : Nat → Nat → Value} {I : Nat → Nat → Int32} {L : Nat → Nat → Int64} {R : Nat → Nat → Option Nat} {tl : am_H} {N i c : Nat} {bt : Nat → Nat → Bool} (hi : i < 4) (hc : c ≤ 16) (h0 : V (40 + 9 * i) 0 = .int (nI c)) (h221 : ∀ p q, p < c → q < c → fm_221 (.ref (40 + 9 * i)) (nI p) (nI q) (fx V I L R ++ tl) = some (.inl (some (.int (nI (bt p q).toNat)), (fx V I L R ++ tl)))) : ∀ (m p b K : Nat), p + m = c → b < c → m < K → fg_233_4 N K (.ref (40 + 9 * i)) (nI b) (nI p) (fx V I L R ++ tl) = some (.inl (some (.int (nI (wsF bt m p b))), (fx V I L R ++ tl))) := by
  intro m
  induction m with
  | zero =>
    intro p b K hp hb hK
    obtain ⟨K, rfl⟩ : ∃ k, K = k + 1 := ⟨K - 1, by omega⟩
    rw [fg_233_4]
    exact ev_b (iv_0 hi h0) (ev_t (nI_le (by omega) (by omega)) rfl)
  | succ m ih =>
    intro p b K hp hb hK
    obtain ⟨K, rfl⟩ : ∃ k, K = k + 1 := ⟨K - 1, by omega⟩
    rw [fg_233_4, wsF]
    have e := h221 b p hb (by omega)
    cases c1 : bt b p with
    | true =>
      rw [c1] at e
      refine ev_b (iv_0 hi h0) (ev_f (nI_ge (by omega) (by omega)) (ev_i (io_1 hi) (ev_cI e (ev_f (by decide) ?_))))
      unfold fg_233_26
      rw [nI_1, if_pos rfl]
      exact ih (p + 1) p K (by omega) (by omega) (by omega)
    | false =>
      rw [c1] at e
      refine ev_b (iv_0 hi h0) (ev_f (nI_ge (by omega) (by omega)) (ev_i (io_1 hi) (ev_cI e (ev_t rfl ?_))))
      unfold fg_233_26
      rw [nI_1, if_neg (by decide)]
      exact ih (p + 1) b K (by omega) hb (by omega)
set_option maxRecDepth 100000 in
set_option maxHeartbeats 1600000 in
theorem r_518l {V : Nat → Nat → Value} {I : Nat → Nat → Int32} {L : Nat → Nat → Int64} {R : Nat → Nat → Option Nat} {tl : am_H} {N c i' : Nat} {x : Int32} {bt : Nat → Nat → Bool} (hi : i' < 4) (hc : c ≤ 16) (h0 : V 174 105 = .int (nI c)) (h508 : ∀ p q, p < c → q < c → fm_508 (.ref 174) (nI p) (nI q) (fx V I L R ++ tl) = some (.inl (some (.int (nI (bt p q).toNat)), (fx V I L R ++ tl)))) : ∀ (m p b K : Nat), p + m = c → b < c → m < K → fg_518_114 N K (.ref 174) (nI i') x (nI b) (nI p) (fx V I L R ++ tl) = some (.inl (some (.int 1), (fx V (iup I 234 (upd (I 234) (16 * i' + wsF bt m p b) x)) L R ++ tl))) := by
  intro m
  induction m with
  | zero =>
    intro p b K hp hb hK
    obtain ⟨K, rfl⟩ : ∃ k, K = k + 1 := ⟨K - 1, by omega⟩
    rw [fg_518_114]
    dsimp only
    rw [show (16 : Int32) * nI i' + nI b = nI (16 * i' + b) from nI_add' i' 16 b]
    exact ev_b (rdI h0) (ev_t (nI_le (by omega) (by omega)) (ev_b (a := Value.ref 234) rfl (ev_b (qs_234 (by omega)) rfl)))
  | succ m ih =>
    intro p b K hp hb hK
    obtain ⟨K, rfl⟩ : ∃ k, K = k + 1 := ⟨K - 1, by omega⟩
    rw [fg_518_114, wsF]
    have e := h508 b p hb (by omega)
    cases c1 : bt b p with
    | true =>
      rw [c1] at e
      refine ev_b (rdI h0) (ev_f (nI_ge (by omega) (by omega)) (ev_i rfl (ev_cI e (ev_f (by decide) ?_))))
      unfold fg_518_141
      rw [nI_1, if_pos rfl]
      exact ih (p + 1) p K (by omega) (by omega) (by omega)
    | false =>
      rw [c1] at e
      refine ev_b (rdI h0) (ev_f (nI_ge (by omega) (by omega)) (ev_i rfl (ev_cI e (ev_t rfl ?_))))
      unfold fg_518_141
      rw [nI_1, if_neg (by decide)]
      exact ih (p + 1) b K (by omega) hb (by omega)
theorem pg_1 {h : am_H} {a it kd ln sz m : Nat} {f : Nat → Int32} (hp : pg h a it kd ln sz m f) : am_vI (am_pG 769 (.ref a) h) = some (nI kd) := by
  obtain ⟨wy, f1, f2, hw', nb, sd, p1, p2⟩ := hp
  exact ev_gI p1 rfl rfl
/-- an island's member is another birth of its kind now -/
theorem rel_mem {V : Nat → Nat → Value} {I : Nat → Nat → Int32} {L : Nat → Nat → Int64} {R : Nat → Nat → Option Nat} {tl : am_H} {n p i c kd x b : Nat} (hi : i < 4) (hx : x < c) (hb : b < n) (hk : I 175 b = nI kd) (hc : c ≤ 16) (s2 : V (40 + 9 * i) 0 = .int (nI c)) (s5 : ∀ k, k < c → ∃ b, b < n ∧ I (41 + 9 * i) k = nI b ∧ I 234 (16 * i + k) = nI b ∧ I 175 b = nI kd) (h : rel V I L R tl n p) : rel V (iup (iup I (41 + 9 * i) (upd (I (41 + 9 * i)) x (nI b))) 234 (upd (I 234) (16 * i + x) (nI b))) L R tl n p := by
  obtain ⟨z1, z2, z3, z4, z5, z6, z7, z8, z9, z10, z11, z12, z13⟩ := h
  have o : ∀ y, y ≠ 234 → y ≠ 41 + 9 * i → iup (iup I (41 + 9 * i) (upd (I (41 + 9 * i)) x (nI b))) 234 (upd (I 234) (16 * i + x) (nI b)) y = I y := fun y h1 h2 => by rw [iup_na h1, iup_na h2]
  have i175 := o 175 (by decide) (by omega)
  have key : ∀ i', i' < 4 → sOk V (iup (iup I (41 + 9 * i) (upd (I (41 + 9 * i)) x (nI b))) 234 (upd (I 234) (16 * i + x) (nI b))) L n i' := fun i' hi' => by
    obtain ⟨c', kd', t1, t2, t3, t4, t5⟩ := rIs_at z7 hi'
    by_cases e : i' = i
    · subst e
      have ec : c' = c := (nI_eq (by omega) (by omega)).mp (by
        rw [s2] at t2
        injection t2 with t2
        exact t2.symm)
      subst ec
      refine ⟨c', kd, t1, t2, by rw [o 233 (by decide) (by omega)]; exact t3, t4, fun k hk' => ?_⟩
      by_cases ek : k = x
      · subst ek
        exact ⟨b, hb, by rw [iup_na (by omega), iup_eq, upd_eq], by rw [iup_eq, upd_eq], by rw [i175]; exact hk⟩
      · obtain ⟨d, d1, d2, d3, d4⟩ := s5 k hk'
        exact ⟨d, d1, by rw [iup_na (by omega), iup_eq, upd_ne ek]; exact d2, by rw [iup_eq, upd_ne (by omega)]; exact d3, by rw [i175]; exact d4⟩
    · refine ⟨c', kd', t1, t2, by rw [o 233 (by decide) (by omega)]; exact t3, t4, fun k hk' => ?_⟩
      obtain ⟨d, d1, d2, d3, d4⟩ := t5 k hk'
      exact ⟨d, d1, by rw [o _ (by omega) (by omega)]; exact d2, by rw [iup_eq, upd_ne (by omega)]; exact d3, by rw [i175]; exact d4⟩
  have hr0 : rel V I L R tl n p := ⟨z1, z2, z3, z4, z5, z6, z7, z8, z9, z10, z11, z12, z13⟩
  obtain ⟨y1, y2, y3, y4, y5, y6, -, y8, y9, y10, y11, y12, y13⟩ : rel V (iup (iup I (41 + 9 * i) (I (41 + 9 * i))) 234 (I 234)) L R tl n p := rel_c (fun _ _ _ => rfl) (fun y _ => by
    by_cases e1 : y = 234
    · subst e1; rw [iup_eq]
    · rw [iup_na e1]
      by_cases e2 : y = 41 + 9 * i
      · subst e2; rw [iup_eq]
      · rw [iup_na e2]) (fun _ _ => rfl) z13 hr0
  refine ⟨z1, fun b' hb' => ?_, ?_, ?_, ?_, ?_, ⟨key 0 (by decide), key 1 (by decide), key 2 (by decide), key 3 (by decide)⟩, z8, ?_, ?_, z11, z12, z13⟩
  · have h' := z2 b' hb'
    unfold bOk at h' ⊢
    rw [i175, o 176 (by decide) (by omega), o 177 (by decide) (by omega), o 178 (by decide) (by omega), o 179 (by decide) (by omega), o 180 (by decide) (by omega), o 181 (by decide) (by omega), o 182 (by decide) (by omega), o 184 (by decide) (by omega), o 185 (by decide) (by omega)]
    exact h'
  · unfold rTx
    rw [o 218 (by decide) (by omega), o 3 (by decide) (by omega)]
    exact z3
  · obtain ⟨m, m1, m2, m3, m4⟩ := z4
    refine ⟨m, m1, m2, m3, fun k hk' => ?_⟩
    have h' := m4 k hk'
    unfold cOk at h' ⊢
    rw [o 15 (by decide) (by omega), o 197 (by decide) (by omega), o 198 (by decide) (by omega), o 199 (by decide) (by omega), o 200 (by decide) (by omega), o 201 (by decide) (by omega), o 202 (by decide) (by omega), o 203 (by decide) (by omega), o 204 (by decide) (by omega)]
    exact h'
  · unfold rDr
    rw [o 164 (by decide) (by omega), o 205 (by decide) (by omega)]
    exact z5
  · unfold rSe
    rw [o 38 (by decide) (by omega), o 206 (by decide) (by omega)]
    exact z6
  · refine rUn_c (o 166 (by decide) (by omega)) (o 254 (by decide) (by omega)) (o 165 (by decide) (by omega)) (fun y a b _ => o y (by omega) (by omega)) (o 203 (by decide) (by omega)) (o 204 (by decide) (by omega)) z9
  · unfold rRu
    rw [o 119 (by decide) (by omega), o 248 (by decide) (by omega), o 120 (by decide) (by omega), o 249 (by decide) (by omega)]
    exact z10
