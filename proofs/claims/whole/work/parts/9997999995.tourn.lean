/-! ===== choices: a tournament ===== -/
/-- m more draws of a tournament: who is best then, and the stream's state -/
def tnF (bt : Nat → Nat → Bool) (c : Nat) : Nat → Int64 → Nat → Nat × Int64
  | 0, st, b => (b, st)
  | m + 1, st, b => tnF bt c m (nxt st) (if bt (hlf (nxt st) % c) b = true then hlf (nxt st) % c else b)
theorem tnF_lt {bt : Nat → Nat → Bool} {c : Nat} : ∀ (m : Nat) (st : Int64) (b : Nat), b < c → (tnF bt c m st b).1 < c := by
  intro m
  induction m with
  | zero => intro st b h; exact h
  | succ m ih =>
    intro st b h
    refine ih _ _ ?_
    split
    · exact Nat.mod_lt _ (by omega)
    · exact h
set_option maxRecDepth 100000 in
set_option maxHeartbeats 4000000 in
theorem c_223l {I : Nat → Nat → Int32} {L : Nat → Nat → Int64} {R : Nat → Nat → Option Nat} {tl : am_H} {N i c T : Nat} {bt : Nat → Nat → Bool} (hi : i < 4) (hc : c ≤ 16) (hT : T ≤ 100) (h221 : ∀ (V : Nat → Nat → Value) p q, p < c → q < c → fm_221 (.ref (40 + 9 * i)) (nI p) (nI q) (fx V I L R ++ tl) = some (.inl (some (.int (nI (bt p q).toNat)), fx V I L R ++ tl))) : ∀ (m k K b : Nat) (st : Int64) (V : Nat → Nat → Value), k + m = T → m < K → b < c → V (40 + 9 * i) 0 = .int (nI c) → V (42 + 9 * i) 0 = .long st → fg_223_14 N K (.ref (40 + 9 * i)) (nI T) (nI b) (nI k) (fx V I L R ++ tl) = some (.inl (some (.int (nI (tnF bt c m st b).1)), fx (vup V (42 + 9 * i) 0 (.long (tnF bt c m st b).2)) I L R ++ tl)) := by
  intro m
  induction m with
  | zero =>
    intro k K b st V hk hK hb h0 h42
    obtain ⟨K, rfl⟩ : ∃ k, K = k + 1 := ⟨K - 1, by omega⟩
    rw [fg_223_14, show vup V (42 + 9 * i) 0 (.long (tnF bt c 0 st b).2) = V from vup_self h42]
    exact ev_t (nI_le (by omega) (by omega)) rfl
  | succ m ih =>
    intro k K b st V hk hK hb h0 h42
    obtain ⟨K, rfl⟩ : ∃ k, K = k + 1 := ⟨K - 1, by omega⟩
    obtain ⟨p, ep⟩ : ∃ p, p = hlf (nxt st) % c := ⟨_, rfl⟩
    have hp : p < c := by rw [ep]; exact Nat.mod_lt _ (by omega)
    have d := y_192i (V := V) (I := I) (L := L) (R := R) (tl := tl) (k := c) hi h42 (by omega) (by omega)
    rw [← ep] at d
    have st2 : tnF bt c (m + 1) st b = tnF bt c m (nxt st) (if bt p b = true then p else b) := by rw [ep]; rfl
    rw [fg_223_14, st2]
    refine ev_f (nI_ge (by omega) (by omega)) (ev_b (ir_2 hi) (ev_b (iv_0 hi h0) (ev_i (yo_8 hi) (ev_cI d (ev_i (io_1 hi) (ev_cI (h221 _ p b hp hb) ?_))))))
    have n0 : vup V (42 + 9 * i) 0 (.long (nxt st)) (40 + 9 * i) 0 = .int (nI c) := (vup_na (by omega)).trans h0
    cases e : bt p b with
    | true =>
      refine ev_f (by decide) ?_
      unfold fg_223_48
      rw [nI_1, if_pos rfl]
      have := ih (k + 1) K p (nxt st) (vup V (42 + 9 * i) 0 (.long (nxt st))) (by omega) (by omega) hp n0 vup_eq
      rw [vup_2] at this
      exact this
    | false =>
      refine ev_t rfl ?_
      unfold fg_223_48
      rw [nI_1, if_neg (by decide)]
      have := ih (k + 1) K b (nxt st) (vup V (42 + 9 * i) 0 (.long (nxt st))) (by omega) (by omega) hb n0 vup_eq
      rw [vup_2] at this
      exact this
set_option maxRecDepth 100000 in
set_option maxHeartbeats 4000000 in
theorem c_223 {V : Nat → Nat → Value} {I : Nat → Nat → Int32} {L : Nat → Nat → Int64} {R : Nat → Nat → Option Nat} {tl : am_H} {N i c T : Nat} {st : Int64} {bt : Nat → Nat → Bool} (hN : 200 < N) (hi : i < 4) (hc : c ≤ 16) (c1 : 1 ≤ c) (hT : T ≤ 100) (T1 : 1 ≤ T) (h221 : ∀ (V : Nat → Nat → Value) p q, p < c → q < c → fm_221 (.ref (40 + 9 * i)) (nI p) (nI q) (fx V I L R ++ tl) = some (.inl (some (.int (nI (bt p q).toNat)), fx V I L R ++ tl))) (h0 : V (40 + 9 * i) 0 = .int (nI c)) (h42 : V (42 + 9 * i) 0 = .long st) : fm_223 N (.ref (40 + 9 * i)) (nI T) (fx V I L R ++ tl) = some (.inl (some (.int (nI (tnF bt c (T - 1) (nxt st) (hlf (nxt st) % c)).1)), fx (vup V (42 + 9 * i) 0 (.long (tnF bt c (T - 1) (nxt st) (hlf (nxt st) % c)).2)) I L R ++ tl)) := by
  have d := y_192i (V := V) (I := I) (L := L) (R := R) (tl := tl) (k := c) hi h42 (by omega) (by omega)
  have l := c_223l (I := I) (L := L) (R := R) (tl := tl) (N := N) hi hc hT h221 (T - 1) 1 N (hlf (nxt st) % c) (nxt st) (vup V (42 + 9 * i) 0 (.long (nxt st))) (by omega) (by omega) (Nat.mod_lt _ (by omega)) ((vup_na (by omega)).trans h0) vup_eq
  rw [vup_2] at l
  unfold fm_223 fg_223_0
  exact ev_b (ir_2 hi) (ev_b (iv_0 hi h0) (ev_i (yo_8 hi) (ev_cI d l)))
set_option maxRecDepth 100000 in
set_option maxHeartbeats 4000000 in
theorem r_512l {I : Nat → Nat → Int32} {L : Nat → Nat → Int64} {R : Nat → Nat → Option Nat} {tl : am_H} {N c T : Nat} {bm : Nat → Nat} {bt : Nat → Nat → Bool} (hc : c ≤ 16) (hT : T ≤ 100) (h6 : I 206 2 = nI T) (h39 : ∀ x, x < c → I 239 x = nI (bm x)) (h508 : ∀ (V : Nat → Nat → Value) p q, p < c → q < c → fm_508 (.ref 174) (nI p) (nI q) (fx V I L R ++ tl) = some (.inl (some (.int (nI (bt p q).toNat)), fx V I L R ++ tl))) : ∀ (m k K b : Nat) (st : Int64) (V : Nat → Nat → Value), k + m = T → m < K → b < c → V 174 105 = .int (nI c) → V 174 96 = .long st → fg_512_11 N K (.ref 174) (nI b) (nI k) (fx V I L R ++ tl) = some (.inl (some (.int (nI (bm (tnF bt c m st b).1))), fx (vup V 174 96 (.long (tnF bt c m st b).2)) I L R ++ tl)) := by
  intro m
  induction m with
  | zero =>
    intro k K b st V hk hK hb h5 h96
    obtain ⟨K, rfl⟩ : ∃ k, K = k + 1 := ⟨K - 1, by omega⟩
    rw [fg_512_11, show vup V 174 96 (.long (tnF bt c 0 st b).2) = V from vup_self h96]
    exact ev_b (rdR rfl) (ev_b ((qa_206 (k := 2) (by omega)).trans (congrArg some h6)) (ev_t (nI_le (by omega) (by omega)) (ev_b (rdR rfl) (ev_b ((qa_239 (by omega)).trans (congrArg some (h39 b hb))) rfl))))
  | succ m ih =>
    intro k K b st V hk hK hb h5 h96
    obtain ⟨K, rfl⟩ : ∃ k, K = k + 1 := ⟨K - 1, by omega⟩
    obtain ⟨p, ep⟩ : ∃ p, p = hlf (nxt st) % c := ⟨_, rfl⟩
    have hp : p < c := by rw [ep]; exact Nat.mod_lt _ (by omega)
    have d := x_474 (V := V) (I := I) (L := L) (R := R) (tl := tl) (k := c) h96 (by omega) (by omega)
    rw [← ep] at d
    have st2 : tnF bt c (m + 1) st b = tnF bt c m (nxt st) (if bt p b = true then p else b) := by rw [ep]; rfl
    rw [fg_512_11, st2]
    refine ev_b (rdR rfl) (ev_b ((qa_206 (k := 2) (by omega)).trans (congrArg some h6)) (ev_f (nI_ge (by omega) (by omega)) (ev_b (rdI h5) (ev_i rfl (ev_cI d (ev_i rfl (ev_cI (h508 _ p b hp hb) ?_)))))))
    have n5 : vup V 174 96 (.long (nxt st)) 174 105 = .int (nI c) := (vup_nj (by decide)).trans h5
    cases e : bt p b with
    | true =>
      refine ev_f (by decide) ?_
      unfold fg_512_44
      rw [nI_1, if_pos rfl]
      have := ih (k + 1) K p (nxt st) (vup V 174 96 (.long (nxt st))) (by omega) (by omega) hp n5 vup_eq
      rw [vup_2] at this
      exact this
    | false =>
      refine ev_t rfl ?_
      unfold fg_512_44
      rw [nI_1, if_neg (by decide)]
      have := ih (k + 1) K b (nxt st) (vup V 174 96 (.long (nxt st))) (by omega) (by omega) hb n5 vup_eq
      rw [vup_2] at this
      exact this
set_option maxRecDepth 100000 in
set_option maxHeartbeats 4000000 in
theorem r_512 {V : Nat → Nat → Value} {I : Nat → Nat → Int32} {L : Nat → Nat → Int64} {R : Nat → Nat → Option Nat} {tl : am_H} {N c T : Nat} {st : Int64} {bm : Nat → Nat} {bt : Nat → Nat → Bool} (hN : 200 < N) (hc : c ≤ 16) (c1 : 1 ≤ c) (hT : T ≤ 100) (T1 : 1 ≤ T) (h6 : I 206 2 = nI T) (h39 : ∀ x, x < c → I 239 x = nI (bm x)) (h508 : ∀ (V : Nat → Nat → Value) p q, p < c → q < c → fm_508 (.ref 174) (nI p) (nI q) (fx V I L R ++ tl) = some (.inl (some (.int (nI (bt p q).toNat)), fx V I L R ++ tl))) (h5 : V 174 105 = .int (nI c)) (h96 : V 174 96 = .long st) : fm_512 N (.ref 174) (fx V I L R ++ tl) = some (.inl (some (.int (nI (bm (tnF bt c (T - 1) (nxt st) (hlf (nxt st) % c)).1))), fx (vup V 174 96 (.long (tnF bt c (T - 1) (nxt st) (hlf (nxt st) % c)).2)) I L R ++ tl)) := by
  have d := x_474 (V := V) (I := I) (L := L) (R := R) (tl := tl) (k := c) h96 (by omega) (by omega)
  have l := r_512l (I := I) (L := L) (R := R) (tl := tl) (N := N) hc hT h6 h39 h508 (T - 1) 1 N (hlf (nxt st) % c) (nxt st) (vup V 174 96 (.long (nxt st))) (by omega) (by omega) (Nat.mod_lt _ (by omega)) ((vup_nj (by decide)).trans h5) vup_eq
  rw [vup_2] at l
  unfold fm_512 fg_512_0
  exact ev_b (rdI h5) (ev_i rfl (ev_cI d l))
