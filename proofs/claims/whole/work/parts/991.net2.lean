/-! ===== running a net: the lines' first values, the whole ===== -/
/-- lines filled from a row, k of them -/
def fil (g row : Nat → Int32) (len k : Nat) : Nat → Int32 := fun q => if q < k then (if q < len then row q else 0) else g q
theorem fil_0 {g row : Nat → Int32} {len : Nat} : fil g row len 0 = g := by
  funext q
  unfold fil
  rw [if_neg (by omega)]
theorem fil_s {g row : Nat → Int32} {len k : Nat} {x : Int32} (hx : x = if k < len then row k else 0) : upd (fil g row len k) k x = fil g row len (k + 1) := by
  funext q
  by_cases c : q = k
  · rw [c, upd_eq, hx]
    unfold fil
    rw [if_pos (show k < k + 1 by omega)]
  · rw [upd_ne c]
    unfold fil
    by_cases d : q < k
    · rw [if_pos d, if_pos (show q < k + 1 by omega)]
    · rw [if_neg d, if_neg (show ¬ q < k + 1 by omega)]
theorem half8 : ∀ l, l < 9 → 1 ≤ l → (nI l - 1) / 2 = nI ((l - 1) / 2) := by decide +kernel
set_option maxRecDepth 100000 in
set_option maxHeartbeats 4000000 in
theorem c_126f {V : Nat → Nat → Value} {I : Nat → Nat → Int32} {L : Nat → Nat → Int64} {R : Nat → Nat → Option Nat} {tl : am_H} {N len : Nat} (h10 : V 16 10 = .int (nI len)) (hlen : len ≤ 8) : ∀ (m k K : Nat), k + m = 8 → m < K → fg_126_7 N K (.ref 16) (nI k) (fx (rsC V 0 1) (iup I 26 (fil (I 26) (I 25) len k)) L R ++ tl) = fg_126_45 N N (.ref 16) 0 (fx (rsC V 0 1) (iup I 26 (fil (I 26) (I 25) len 8)) L R ++ tl) := by
  intro m
  induction m with
  | zero =>
    intro k K hk hK
    obtain ⟨K, rfl⟩ : ∃ k, K = k + 1 := ⟨K - 1, by omega⟩
    obtain rfl : k = 8 := by omega
    rw [fg_126_7]
    exact ev_t (by decide) rfl
  | succ m ih =>
    intro k K hk hK
    obtain ⟨K, rfl⟩ : ∃ k, K = k + 1 := ⟨K - 1, by omega⟩
    have st : ∀ x : Int32, x = (if k < len then I 25 k else 0) → fg_126_36 N (fg_126_7 N K) (.ref 16) (nI k) (.ref 26) (nI k) x (fx (rsC V 0 1) (iup I 26 (fil (I 26) (I 25) len k)) L R ++ tl) = fg_126_45 N N (.ref 16) 0 (fx (rsC V 0 1) (iup I 26 (fil (I 26) (I 25) len 8)) L R ++ tl) := fun x hx => by
      unfold fg_126_36
      refine ev_b (a := fx (rsC V 0 1) (iup I 26 (fil (I 26) (I 25) len (k + 1))) L R ++ tl) (ev_s (f := fil (I 26) (I 25) len k) (n := 8) rfl (am_inb_n (by omega) (by omega)) rfl (by rw [nI_clamp (by omega), fil_s hx]; rfl)) ?_
      rw [nI_1]
      exact ih (k + 1) K (by omega) (by omega)
    rw [fg_126_7]
    refine ev_f (nI_ge (b := 8) (by omega) (by omega)) (ev_b (a := Value.ref 26) rfl (ev_b (a := nI len) (by show am_vI (some (V 16 10)) = _; rw [h10]; rfl) ?_))
    by_cases c : len ≤ k
    · exact ev_t (nI_le c (by omega)) (st 0 (by rw [if_neg (by omega)]))
    · exact ev_f (nI_ge (by omega) (by omega)) (ev_b (a := Value.ref 25) rfl (ev_b (qa_25 (by omega)) (st _ (by rw [if_pos (by omega)]; rfl))))
/-- what a net comes to -/
def nOut (s v : Nat → Nat) (lm sz : Nat) (g : Nat → Int32) : Int32 × Nat × (Nat → Int32) := nrun s v lm sz 0 1 g
set_option maxRecDepth 100000 in
set_option maxHeartbeats 4000000 in
theorem c_126 {V : Nat → Nat → Value} {I : Nat → Nat → Int32} {L : Nat → Nat → Int64} {R : Nat → Nat → Option Nat} {tl : am_H} {N a it ln sz m0 lm len : Nat} {f : Nat → Int32} {s v : Nat → Nat} (hN : 100 < N) (hp : prA V I tl a it 3 ln sz m0 f) (ha : a ≠ 16) (hit : it ≠ 26) (h4 : V 16 4 = .ref a) (hl : V 16 0 = .int (nI lm)) (hl1 : 1 ≤ lm) (hlm : lm ≤ 2000) (hsz : sz ≤ 40) (hm0 : sz * wdN 3 ≤ m0) (hm1 : m0 ≤ 1000) (hln : 2 ≤ ln) (hln8 : ln ≤ 8) (hs : ∀ c, c < sz → f (c * 2) = nI (s c) ∧ f (c * 2 + 1) = nI (v c) ∧ s c < v c ∧ v c < 8) (h10 : V 16 10 = .int (nI len)) (hlen : len ≤ 8) : fm_126 N (.ref 16) (fx (rsC V 0 0) I L R ++ tl) = some (.inl (some (.int ((nOut s v lm sz (fil (I 26) (I 25) len 8)).2.2 ((ln - 1) / 2))), fx (rsC V (nOut s v lm sz (fil (I 26) (I 25) len 8)).1 (nOut s v lm sz (fil (I 26) (I 25) len 8)).2.1) (iup I 26 (nOut s v lm sz (fil (I 26) (I 25) len 8)).2.2) L R ++ tl)) := by
  have k1 := c_126f (V := V) (I := I) (L := L) (R := R) (tl := tl) (N := N) h10 hlen 8 0 N rfl (by omega)
  have k2 := c_126l (V := V) (I := I) (L := L) (R := R) (tl := tl) (N := N) (s := s) (v := v) hp ha hit h4 hl hlm hsz hm0 hm1 hs sz 0 N 1 (fil (I 26) (I 25) len 8) (by omega) (by omega) (by omega)
  rw [fil_0, iup_self] at k1
  unfold nOut
  generalize nrun s v lm sz 0 1 (fil (I 26) (I 25) len 8) = q at k2 ⊢
  obtain ⟨x1, x2, x3, x4, x5, x6, p1, p2⟩ := hp (rsC V q.1 q.2.1) (iup I 26 q.2.2) L R (fun j => by show vup (vup V 16 1 _) 16 2 _ a j = _; rw [vup_na ha, vup_na ha]) (iup_na hit)
  unfold fm_126 fg_126_0
  refine ev_i rfl (ev_cI (c_118 hl (by omega) hlm) ?_)
  refine k1.trans (k2.trans ?_)
  unfold fg_126_98
  refine ev_b (a := Value.ref a) (by show am_vR (some (V 16 4)) = _; rw [h4]; rfl) (ev_b (ev_gI p1 rfl rfl) ?_)
  rw [half8 ln (by omega) (by omega)]
  refine ev_f (nI_pos (by omega)) (ev_b (a := Value.ref 26) rfl (ev_b (a := nI 8) rfl (ev_f (nI_ge (by omega) (by omega)) (ev_b (a := Value.ref 26) rfl (ev_b (qa_26 (by omega)) rfl)))))
set_option maxRecDepth 100000 in
set_option maxHeartbeats 4000000 in
theorem r_417f {V : Nat → Nat → Value} {I : Nat → Nat → Int32} {L : Nat → Nat → Int64} {R : Nat → Nat → Option Nat} {tl : am_H} {N len ln lm : Nat} (h15 : V 174 15 = .int (nI ln)) (h54 : V 174 54 = .int (nI len)) (hlen : len ≤ 8) (hln : ln ≤ 8) (hl : I 206 0 = nI lm) (hl1 : 1 ≤ lm) (hlm : lm ≤ 2000) : ∀ (m k K : Nat), k + m = ln → m < K → fg_417_2 N K (.ref 174) (nI k) (fx (rsR V 0 0) (iup I 194 (fil (I 194) (I 212) len k)) L R ++ tl) = fg_417_47 N N (.ref 174) 1 0 (fx (rsR V 0 1) (iup I 194 (fil (I 194) (I 212) len ln)) L R ++ tl) := by
  intro m
  induction m with
  | zero =>
    intro k K hk hK
    obtain ⟨K, rfl⟩ : ∃ k, K = k + 1 := ⟨K - 1, by omega⟩
    obtain rfl : k = ln := by omega
    rw [fg_417_2]
    refine ev_b (a := nI k) (by show am_vI (some (V 174 15)) = _; rw [h15]; rfl) (ev_t (nI_le (Nat.le_refl _) (by omega)) (ev_i rfl (ev_cI (r_407 (I := iup I 194 (fil (I 194) (I 212) len k)) (lm := lm) hl (by omega) hlm) rfl)))
  | succ m ih =>
    intro k K hk hK
    obtain ⟨K, rfl⟩ : ∃ k, K = k + 1 := ⟨K - 1, by omega⟩
    have st : ∀ x : Int32, x = (if k < len then I 212 k else 0) → fg_417_33 N (fg_417_2 N K) (.ref 174) (nI k) (.ref 194) (nI k) x (fx (rsR V 0 0) (iup I 194 (fil (I 194) (I 212) len k)) L R ++ tl) = fg_417_47 N N (.ref 174) 1 0 (fx (rsR V 0 1) (iup I 194 (fil (I 194) (I 212) len ln)) L R ++ tl) := fun x hx => by
      unfold fg_417_33
      refine ev_b (a := fx (rsR V 0 0) (iup I 194 (fil (I 194) (I 212) len (k + 1))) L R ++ tl) (ev_s (f := fil (I 194) (I 212) len k) (n := 400) rfl (am_inb_n (by omega) (by omega)) rfl (by rw [nI_clamp (by omega), fil_s hx]; rfl)) ?_
      rw [nI_1]
      exact ih (k + 1) K (by omega) (by omega)
    rw [fg_417_2]
    refine ev_b (a := nI ln) (by show am_vI (some (V 174 15)) = _; rw [h15]; rfl) (ev_f (nI_ge (by omega) (by omega)) (ev_b (a := Value.ref 194) rfl (ev_b (a := nI len) (by show am_vI (some (V 174 54)) = _; rw [h54]; rfl) ?_)))
    by_cases c : len ≤ k
    · exact ev_t (nI_le c (by omega)) (st 0 (by rw [if_neg (by omega)]))
    · exact ev_f (nI_ge (by omega) (by omega)) (ev_b (a := Value.ref 212) rfl (ev_b (qa_212 (by omega)) (st _ (by rw [if_pos (by omega)]; rfl))))
set_option maxRecDepth 100000 in
set_option maxHeartbeats 4000000 in
theorem r_417l {V : Nat → Nat → Value} {I : Nat → Nat → Int32} {L : Nat → Nat → Int64} {R : Nat → Nat → Option Nat} {tl : am_H} {N sz lm : Nat} {s v : Nat → Nat} (h14 : V 174 14 = .int (nI sz)) (hl : I 206 0 = nI lm) (hlm : lm ≤ 2000) (hsz : sz ≤ 40) (hs : ∀ c, c < sz → I 186 c = nI (s c) ∧ I 187 c = nI (v c) ∧ s c < v c ∧ v c < 8) : ∀ (m c K u : Nat) (g : Nat → Int32), c + m = sz → m + 1 < K → u ≤ lm → fg_417_47 N K (.ref 174) 1 (nI c) (fx (rsR V 0 u) (iup I 194 g) L R ++ tl) = fg_417_80 N (.ref 174) (fx (rsR V (nrun s v lm m c u g).1 (nrun s v lm m c u g).2.1) (iup I 194 (nrun s v lm m c u g).2.2) L R ++ tl) := by
  have h14' : ∀ (x : Int32) (u : Nat) (g : Nat → Int32), am_vI (am_pG 3086 (.ref 174) (fx (rsR V x u) (iup I 194 g) L R ++ tl)) = some (nI sz) := fun x u g => by
    show am_vI (some (V 174 14)) = _
    rw [h14]
    rfl
  intro m
  induction m with
  | zero =>
    intro c K u g hc hK hu
    obtain ⟨K, rfl⟩ : ∃ k, K = k + 1 := ⟨K - 1, by omega⟩
    rw [fg_417_47]
    exact ev_b (h14' 0 u g) (ev_t (nI_le (by omega) (by omega)) rfl)
  | succ m ih =>
    intro c K u g hc hK hu
    obtain ⟨K, rfl⟩ : ∃ k, K = k + 1 := ⟨K - 1, by omega⟩
    rw [fg_417_47, nrun]
    refine ev_b (h14' 0 u g) (ev_f (nI_ge (by omega) (by omega)) (ev_f (by decide) (ev_i rfl ?_)))
    by_cases d : u < lm
    · rw [if_pos d]
      obtain ⟨s1, s2, s3, s4⟩ := hs c (by omega)
      obtain ⟨r, e⟩ := r_418 (V := rsR V 0 (u + 1)) (I := iup I 194 g) (L := L) (R := R) (tl := tl) (k := c) (i := s c) (j := v c) (by omega) (by rw [iup_na (by omega)]; exact s1) (by rw [iup_na (by omega)]; exact s2) s3 (by omega)
      refine ev_cI (r_407 (I := iup I 194 g) (lm := lm) hl d hlm) (ev_f (by decide) (ev_i rfl (ev_cI e ?_)))
      unfold fg_417_74
      rw [iup_iup, nI_1]
      exact ih (c + 1) K (u + 1) (nx g (s c) (v c)) (by omega) (by omega) (by omega)
    · rw [if_neg d]
      obtain rfl : u = lm := by omega
      refine ev_cI (r_407n (I := iup I 194 g) hl) (ev_t rfl ?_)
      unfold fg_417_74
      obtain ⟨K, rfl⟩ : ∃ k, K = k + 1 := ⟨K - 1, by omega⟩
      rw [fg_417_47]
      dsimp only
      rw [nI_1]
      refine ev_b (h14' 3 u g) ?_
      by_cases e : nI sz ≤ nI (c + 1)
      · exact ev_t e rfl
      · exact ev_f e (ev_t rfl rfl)
set_option maxRecDepth 100000 in
set_option maxHeartbeats 4000000 in
theorem r_417 {V : Nat → Nat → Value} {I : Nat → Nat → Int32} {L : Nat → Nat → Int64} {R : Nat → Nat → Option Nat} {tl : am_H} {N sz ln lm len : Nat} {s v : Nat → Nat} (hN : 100 < N) (h14 : V 174 14 = .int (nI sz)) (h15 : V 174 15 = .int (nI ln)) (h54 : V 174 54 = .int (nI len)) (hlen : len ≤ 8) (hln : 2 ≤ ln) (hln8 : ln ≤ 8) (hl : I 206 0 = nI lm) (hl1 : 1 ≤ lm) (hlm : lm ≤ 2000) (hsz : sz ≤ 40) (hs : ∀ c, c < sz → I 186 c = nI (s c) ∧ I 187 c = nI (v c) ∧ s c < v c ∧ v c < 8) : fm_417 N (.ref 174) (fx (rsR V 0 0) I L R ++ tl) = some (.inl (none, fx (vup (rsR V (nOut s v lm sz (fil (I 194) (I 212) len ln)).1 (nOut s v lm sz (fil (I 194) (I 212) len ln)).2.1) 174 49 (.int ((nOut s v lm sz (fil (I 194) (I 212) len ln)).2.2 ((ln - 1) / 2)))) (iup I 194 (nOut s v lm sz (fil (I 194) (I 212) len ln)).2.2) L R ++ tl)) := by
  have k1 := r_417f (V := V) (I := I) (L := L) (R := R) (tl := tl) (N := N) h15 h54 hlen hln8 hl hl1 hlm ln 0 N (by omega) (by omega)
  have k2 := r_417l (V := V) (I := I) (L := L) (R := R) (tl := tl) (N := N) (s := s) (v := v) h14 hl hlm hsz hs sz 0 N 1 (fil (I 194) (I 212) len ln) (by omega) (by omega) (by omega)
  rw [fil_0, iup_self] at k1
  unfold nOut
  generalize nrun s v lm sz 0 1 (fil (I 194) (I 212) len ln) = q at k2 ⊢
  unfold fm_417 fg_417_0
  refine k1.trans (k2.trans ?_)
  unfold fg_417_80
  refine ev_b (a := Value.ref 194) rfl (ev_b (a := nI ln) (by show am_vI (some (V 174 15)) = _; rw [h15]; rfl) ?_)
  rw [half8 ln (by omega) (by omega)]
  exact ev_b (qa_194 (by omega)) (ev_b qp_174_49 rfl)
