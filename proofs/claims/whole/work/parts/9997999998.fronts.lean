/-! ===== choices: the front ===== -/
theorem min_ex (f : Nat → Nat) : ∀ c, 1 ≤ c → ∃ p, p < c ∧ ∀ q, q < c → f p ≤ f q := by
  intro c
  induction c with
  | zero => intro h; exact absurd h (by omega)
  | succ c ih =>
    intro _
    by_cases c0 : c = 0
    · subst c0
      exact ⟨0, by omega, fun q hq => by rw [show q = 0 by omega]; exact Nat.le_refl _⟩
    · obtain ⟨p, p1, p2⟩ := ih (by omega)
      by_cases h : f c < f p
      · refine ⟨c, by omega, fun q hq => ?_⟩
        by_cases e : q = c
        · rw [e]; exact Nat.le_refl _
        · have := p2 q (by omega); omega
      · refine ⟨p, by omega, fun q hq => ?_⟩
        by_cases e : q = c
        · rw [e]; omega
        · exact p2 q (by omega)
theorem alS_t {D : Nat → Bool} : ∀ m q, (∀ x, q ≤ x → x < q + m → ¬ D x = true) → alS D m q = true := by
  intro m
  induction m with
  | zero => intro q _; rfl
  | succ m ih =>
    intro q h
    rw [alS, if_neg (h q (Nat.le_refl _) (by omega))]
    exact ih (q + 1) (fun x h1 h2 => h x (by omega) (by omega))
/-- the front isn't empty -/
theorem frB_ex {cm zm : Nat → Nat} {c : Nat} (h : 1 ≤ c) : ∃ p, p < c ∧ frB cm zm c p = true := by
  obtain ⟨p, p1, p2⟩ := min_ex (fun x => cm x + zm x) c h
  refine ⟨p, p1, alS_t c 0 (fun x _ hx q => ?_)⟩
  have d := of_decide_eq_true q
  have l : cm p + zm p ≤ cm x + zm x := p2 x (by omega)
  omega
theorem cnB_pos {B : Nat → Bool} {p : Nat} : ∀ c, p < c → B p = true → 1 ≤ cnB B c := by
  intro c hc hb
  have := cnB_m (B := B) (p + 1) c (by omega)
  rw [cnB, hb] at this
  have t : true.toNat = 1 := rfl
  omega
theorem cnB_a {B : Nat → Bool} {c : Nat} : ∀ (m p k : Nat), p + m = c → k + cnB B p < cnB B c → ∃ q, q < c ∧ fnP B m p k = nI q := by
  intro m
  induction m with
  | zero => intro p k hp hk; rw [show p = c by omega] at hk; omega
  | succ m ih =>
    intro p k hp hk
    have st : cnB B (p + 1) = cnB B p + (B p).toNat := rfl
    rw [fnP]
    cases e : B p with
    | true =>
      rw [e] at st
      have t : true.toNat = 1 := rfl
      rw [if_pos rfl]
      by_cases k0 : k = 0
      · rw [if_pos k0]; exact ⟨p, by omega, rfl⟩
      · rw [if_neg k0]; exact ih (p + 1) (k - 1) (by omega) (by omega)
    | false =>
      rw [e] at st
      have t : false.toNat = 0 := rfl
      rw [if_neg (by decide)]
      exact ih (p + 1) k (by omega) (by omega)
set_option maxRecDepth 100000 in
set_option maxHeartbeats 4000000 in
theorem c_227l {V : Nat → Nat → Value} {I : Nat → Nat → Int32} {L : Nat → Nat → Int64} {R : Nat → Nat → Option Nat} {tl : am_H} {N i c : Nat} {P : Nat → Bool} (hi : i < 4) (hc : c ≤ 16) (h0 : V (40 + 9 * i) 0 = .int (nI c)) (h228 : ∀ p, p < c → fm_228 N (.ref (40 + 9 * i)) (nI p) (fx V I L R ++ tl) = some (.inl (some (.int (nI (P p).toNat)), (fx V I L R ++ tl)))) : ∀ (m k K : Nat), k + m = c → m < K → fg_227_4 N K (.ref (40 + 9 * i)) (nI (cnB P k)) (nI k) (fx V I L R ++ tl) = some (.inl (some (.int (nI (cnB P c))), (fx V I L R ++ tl))) := by
  intro m
  induction m with
  | zero =>
    intro k K hk hK
    obtain ⟨K, rfl⟩ : ∃ k, K = k + 1 := ⟨K - 1, by omega⟩
    obtain rfl : k = c := by omega
    rw [fg_227_4]
    exact ev_b (iv_0 hi h0) (ev_t (nI_le (Nat.le_refl _) (by omega)) rfl)
  | succ m ih =>
    intro k K hk hK
    obtain ⟨K, rfl⟩ : ∃ k, K = k + 1 := ⟨K - 1, by omega⟩
    have e := ih (k + 1) K (by omega) (by omega)
    rw [fg_227_4]
    refine ev_b (iv_0 hi h0) (ev_f (nI_ge (by omega) (by omega)) (ev_i (io_1 hi) (ev_cI (h228 k (by omega)) ?_)))
    rw [cnB] at e
    cases b : P k with
    | true =>
      rw [b] at e
      refine ev_f (by decide) ?_
      unfold fg_227_26
      rw [nI_1, nI_1]
      exact e
    | false =>
      rw [b] at e
      refine ev_t rfl ?_
      unfold fg_227_26
      rw [nI_1, Int32.add_zero]
      exact e
set_option maxRecDepth 100000 in
set_option maxHeartbeats 4000000 in
theorem r_513l {V : Nat → Nat → Value} {I : Nat → Nat → Int32} {L : Nat → Nat → Int64} {R : Nat → Nat → Option Nat} {tl : am_H} {N c : Nat} {P : Nat → Bool} (hc : c ≤ 16) (h5 : V 174 105 = .int (nI c)) (h514 : ∀ p, p < c → fm_514 N (.ref 174) (nI p) (fx V I L R ++ tl) = some (.inl (some (.int (nI (P p).toNat)), (fx V I L R ++ tl)))) : ∀ (m k K : Nat), k + m = c → m < K → fg_513_4 N K (.ref 174) (nI (cnB P k)) (nI k) (fx V I L R ++ tl) = some (.inl (some (.int (nI (cnB P c))), (fx V I L R ++ tl))) := by
  intro m
  induction m with
  | zero =>
    intro k K hk hK
    obtain ⟨K, rfl⟩ : ∃ k, K = k + 1 := ⟨K - 1, by omega⟩
    obtain rfl : k = c := by omega
    rw [fg_513_4]
    exact ev_b (rdI h5) (ev_t (nI_le (Nat.le_refl _) (by omega)) rfl)
  | succ m ih =>
    intro k K hk hK
    obtain ⟨K, rfl⟩ : ∃ k, K = k + 1 := ⟨K - 1, by omega⟩
    have e := ih (k + 1) K (by omega) (by omega)
    rw [fg_513_4]
    refine ev_b (rdI h5) (ev_f (nI_ge (by omega) (by omega)) (ev_i rfl (ev_cI (h514 k (by omega)) ?_)))
    rw [cnB] at e
    cases b : P k with
    | true =>
      rw [b] at e
      refine ev_f (by decide) ?_
      unfold fg_513_26
      rw [nI_1, nI_1]
      exact e
    | false =>
      rw [b] at e
      refine ev_t rfl ?_
      unfold fg_513_26
      rw [nI_1, Int32.add_zero]
      exact e
