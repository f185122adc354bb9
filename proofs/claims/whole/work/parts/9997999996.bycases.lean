/-! ===== choices: by cases, in a drawn order ===== -/
/-- an order is shuffled: from place k down -/
def drw (st : Int64) (m : Nat) : Nat := hlf (nxt st) % m
theorem drw_lt {st : Int64} {m : Nat} (h : 0 < m) : drw st m < m := Nat.mod_lt _ h
def nxw (st : Int64) : Int64 := nxt st
def shG (g : Int64 → Int64) (d : Int64 → Nat → Nat) : Nat → (Nat → Nat) → Int64 → (Nat → Nat) × Int64
  | 0, P, st => (P, st)
  | k + 1, P, st => shG g d k (swO P (k + 1) (d st (k + 2))) (g st)
def shF (k : Nat) (P : Nat → Nat) (st : Int64) : (Nat → Nat) × Int64 := shG nxw drw k P st
theorem shG_s {g : Int64 → Int64} {d : Int64 → Nat → Nat} {k : Nat} {P : Nat → Nat} {st : Int64} : shG g d (k + 1) P st = shG g d k (swO P (k + 1) (d st (k + 2))) (g st) := rfl
theorem shF_s {k : Nat} {P : Nat → Nat} {st : Int64} : shF (k + 1) P st = shF k (swO P (k + 1) (drw st (k + 2))) (nxt st) := by
  unfold shF
  exact shG_s
theorem shF_0 {P : Nat → Nat} {st : Int64} : shF 0 P st = (P, st) := rfl
theorem shF_lt {s : Nat} : ∀ (k : Nat) (P : Nat → Nat) (st : Int64), k < s → (∀ x, x < s → P x < s) → ∀ x, x < s → (shF k P st).1 x < s := by
  intro k
  induction k with
  | zero => intro P st _ h x hx; rw [shF_0]; exact h x hx
  | succ k ih =>
    intro P st hk h x hx
    rw [shF_s]
    have la := drw_lt (st := st) (show 0 < k + 2 by omega)
    generalize drw st (k + 2) = a at la ⊢
    refine ih _ _ (by omega) (fun y hy => ?_) x hx
    unfold swO
    by_cases e1 : y = a
    · rw [if_pos e1]; exact h _ (by omega)
    · rw [if_neg e1]
      by_cases e2 : y = k + 1
      · rw [if_pos e2]; exact h _ (by omega)
      · rw [if_neg e2]; exact h _ hy
theorem sw_up {f : Nat → Int32} {P : Nat → Nat} {s i j : Nat} (h : ∀ k, k < s → f k = nI (P k)) : ∀ k, k < s → upd (upd f i (nI (P j))) j (nI (P i)) k = nI (swO P i j k) := fun k hk => by
  unfold swO
  by_cases e1 : k = j
  · subst e1; rw [upd_eq, if_pos rfl]
  · rw [upd_ne e1, if_neg e1]
    by_cases e2 : k = i
    · subst e2; rw [upd_eq, if_pos rfl]
    · rw [upd_ne e2, if_neg e2]; exact h k hk
set_option maxRecDepth 100000 in
set_option maxHeartbeats 4000000 in
theorem c_224a {V : Nat → Nat → Value} {L : Nat → Nat → Int64} {R : Nat → Nat → Option Nat} {tl : am_H} {N i s : Nat} (hi : i < 4) (hs : s ≤ 24) (h3 : V (40 + 9 * i) 3 = .int (nI s)) : ∀ (m k K : Nat) (I : Nat → Nat → Int32), k + m = s → m < K → (∀ x, x < k → I (48 + 9 * i) x = nI x) → ∃ F, fg_224_2 N K (.ref (40 + 9 * i)) (nI k) (fx V I L R ++ tl) = fg_224_30 N N (.ref (40 + 9 * i)) (nI s - 1) (fx V (iup I (48 + 9 * i) F) L R ++ tl) ∧ ∀ x, x < s → F x = nI x := by
  intro m
  induction m with
  | zero =>
    intro k K I hk hK h
    obtain ⟨K, rfl⟩ : ∃ k, K = k + 1 := ⟨K - 1, by omega⟩
    obtain rfl : k = s := by omega
    refine ⟨I (48 + 9 * i), ?_, h⟩
    rw [fg_224_2, iup_self]
    exact ev_b (iv_3 hi h3) (ev_t (nI_le (Nat.le_refl _) (by omega)) (ev_b (iv_3 hi h3) rfl))
  | succ m ih =>
    intro k K I hk hK h
    obtain ⟨K, rfl⟩ : ∃ k, K = k + 1 := ⟨K - 1, by omega⟩
    obtain ⟨F, e, hF⟩ := ih (k + 1) K (iup I (48 + 9 * i) (upd (I (48 + 9 * i)) k (nI k))) (by omega) (by omega) (fun x hx => by
      rw [iup_eq]
      by_cases z : x = k
      · subst z; exact upd_eq
      · rw [upd_ne z]; exact h x (by omega))
    rw [iup_2] at e
    refine ⟨F, ?_, hF⟩
    rw [fg_224_2]
    refine ev_b (iv_3 hi h3) (ev_f (nI_ge (by omega) (by omega)) (ev_b (ir_9 hi) (ev_b (ij_48 hi (by omega)) ?_)))
    rw [nI_1]
    exact e
set_option maxRecDepth 100000 in
set_option maxHeartbeats 4000000 in
theorem c_224b {L : Nat → Nat → Int64} {R : Nat → Nat → Option Nat} {tl : am_H} {N i s c : Nat} (hi : i < 4) (hs : s ≤ 24) : ∀ (k K : Nat) (P : Nat → Nat) (st : Int64) (V : Nat → Nat → Value) (I : Nat → Nat → Int32), k < s → k < K → V (40 + 9 * i) 0 = .int (nI c) → V (42 + 9 * i) 0 = .long st → (∀ x, x < s → I (48 + 9 * i) x = nI (P x)) → ∃ F, fg_224_30 N K (.ref (40 + 9 * i)) (nI k) (fx V I L R ++ tl) = fg_224_89 N N (.ref (40 + 9 * i)) ((1 <<< (nI c &&& 31)) - 1) 0 (fx (vup V (42 + 9 * i) 0 (.long (shF k P st).2)) (iup I (48 + 9 * i) F) L R ++ tl) ∧ ∀ x, x < s → F x = nI ((shF k P st).1 x) := by
  intro k
  induction k with
  | zero =>
    intro K P st V I hk hK h0 h42 h48
    obtain ⟨K, rfl⟩ : ∃ k, K = k + 1 := ⟨K - 1, by omega⟩
    rw [shF_0]
    refine ⟨I (48 + 9 * i), ?_, h48⟩
    rw [fg_224_30, iup_self, show vup V (42 + 9 * i) 0 (.long st) = V from vup_self h42]
    exact ev_t (by decide) (ev_b (iv_0 hi h0) rfl)
  | succ k ih =>
    intro K P st V I hk hK h0 h42 h48
    obtain ⟨K, rfl⟩ : ∃ k, K = k + 1 := ⟨K - 1, by omega⟩
    obtain ⟨a, ea⟩ : ∃ a, a = drw st (k + 2) := ⟨_, rfl⟩
    have la : a < k + 2 := by rw [ea]; exact drw_lt (by omega)
    have d := y_192i (V := V) (I := I) (L := L) (R := R) (tl := tl) (k := k + 2) hi h42 (by omega) (by omega)
    rw [show hlf (nxt st) % (k + 2) = a from ea.symm] at d
    obtain ⟨F, e, hF⟩ := ih K (swO P (k + 1) a) (nxt st) (vup V (42 + 9 * i) 0 (.long (nxt st))) (iup I (48 + 9 * i) (upd (upd (I (48 + 9 * i)) (k + 1) (nI (P a))) a (nI (P (k + 1))))) (by omega) (by omega) ((vup_na (by omega)).trans h0) vup_eq (by rw [iup_eq]; exact sw_up h48)
    rw [vup_2, iup_2] at e
    rw [shF_s, ← ea]
    refine ⟨F, ?_, hF⟩
    rw [fg_224_30]
    dsimp only
    rw [nI_m1, show nI (k + 1) + 1 = nI (k + 2) from nI_1 _]
    refine ev_f (nI_nlt (b := 1) (by omega) (by omega)) (ev_b (ir_2 hi) (ev_i (yo_8 hi) (ev_cI d (ev_b (ir_9 hi) (ev_b (a := nI (P (k + 1))) ((ia_48 hi (by omega)).trans (by rw [h48 (k + 1) (by omega)])) (ev_b (ir_9 hi) (ev_b (ir_9 hi) (ev_b (a := nI (P a)) ((ia_48 hi (by omega)).trans (by rw [h48 a (by omega)])) (ev_b (ij_48 hi (by omega)) (ev_b (ir_9 hi) (ev_b (ij_48 hi (by omega)) ?_)))))))))))
    rw [iup_2, iup_eq]
    exact e
set_option maxRecDepth 100000 in
set_option maxHeartbeats 4000000 in
theorem c_224c {V : Nat → Nat → Value} {I : Nat → Nat → Int32} {L : Nat → Nat → Int64} {R : Nat → Nat → Option Nat} {tl : am_H} {N i c s : Nat} {P : Nat → Nat} {E : Nat → Nat → Nat} (hN : 100 < N) (hi : i < 4) (hc : c ≤ 16) (hs : s ≤ 24) (h0 : V (40 + 9 * i) 0 = .int (nI c)) (h3 : V (40 + 9 * i) 3 = .int (nI s)) (hP : ∀ k, k < s → P k < s) (h48 : ∀ x, x < s → I (48 + 9 * i) x = nI (P x)) (h46 : ∀ x, x < c → ∀ r, r < s → I (46 + 9 * i) (24 * x + r) = nI (E x r)) (hE : ∀ x r, E x r ≤ 2000000) : ∀ (m k K : Nat) (mk : Int32) (A : Nat → Bool), k + m = s → m < K → (∀ d, d < 32 → tbi mk d = A d) → fg_224_89 N K (.ref (40 + 9 * i)) mk (nI k) (fx V I L R ++ tl) = some (.inl (some (.int (nI (lsF (fdE c E A ((List.range' k m).map P)) c 0))), fx V I L R ++ tl)) := by
  intro m
  induction m with
  | zero =>
    intro k K mk A hk hK hm
    obtain ⟨K, rfl⟩ : ∃ k, K = k + 1 := ⟨K - 1, by omega⟩
    rw [fg_224_89]
    exact ev_b (iv_3 hi h3) (ev_t (nI_le (by omega) (by omega)) (ev_i (io_1 hi) (ev_cI (c_226 hN hi hc h0 hm) rfl)))
  | succ m ih =>
    intro k K mk A hk hK hm
    obtain ⟨K, rfl⟩ : ∃ k, K = k + 1 := ⟨K - 1, by omega⟩
    obtain ⟨r, r1, r2⟩ := c_225 (V := V) (I := I) (L := L) (R := R) (tl := tl) (k := P k) hN hi hc (hP k (by omega)) hs h0 h46 hE hm
    rw [fg_224_89, List.range'_succ, List.map_cons]
    refine ev_b (iv_3 hi h3) (ev_f (nI_ge (by omega) (by omega)) (ev_b (ir_9 hi) (ev_b (a := nI (P k)) ((ia_48 hi (by omega)).trans (by rw [h48 k (by omega)])) (ev_i (io_1 hi) (ev_cI r1 ?_)))))
    rw [nI_1]
    exact ih (k + 1) K r (narE c E A (P k)) (by omega) (by omega) r2
/-- who is chosen by cases, and the stream's state -/
def csF (c s : Nat) (E : Nat → Nat → Nat) (st : Int64) : Nat := lsF (fdE c E (fun x => decide (x < c)) ((List.range' 0 s).map (shF (s - 1) (fun x => x) st).1)) c 0
set_option maxRecDepth 100000 in
set_option maxHeartbeats 4000000 in
theorem c_224 {V : Nat → Nat → Value} {I : Nat → Nat → Int32} {L : Nat → Nat → Int64} {R : Nat → Nat → Option Nat} {tl : am_H} {N i c s : Nat} {st : Int64} {E : Nat → Nat → Nat} (hN : 100 < N) (hi : i < 4) (hc : c ≤ 16) (hs : s ≤ 24) (h0 : V (40 + 9 * i) 0 = .int (nI c)) (h3 : V (40 + 9 * i) 3 = .int (nI s)) (h42 : V (42 + 9 * i) 0 = .long st) (h46 : ∀ x, x < c → ∀ r, r < s → I (46 + 9 * i) (24 * x + r) = nI (E x r)) (hE : ∀ x r, E x r ≤ 2000000) : ∃ F, fm_224 N (.ref (40 + 9 * i)) (fx V I L R ++ tl) = some (.inl (some (.int (nI (csF c s E st))), fx (vup V (42 + 9 * i) 0 (.long (shF (s - 1) (fun x => x) st).2)) (iup I (48 + 9 * i) F) L R ++ tl)) := by
  obtain ⟨F, e1, hF⟩ := c_224a (V := V) (L := L) (R := R) (tl := tl) (N := N) hi hs h3 s 0 N I (by omega) (by omega) (fun x hx => absurd hx (by omega))
  have fin : ∀ (st2 : Int64) (P : Nat → Nat) (G : Nat → Int32), (∀ k, k < s → P k < s) → (∀ x, x < s → G x = nI (P x)) → fg_224_89 N N (.ref (40 + 9 * i)) ((1 <<< (nI c &&& 31)) - 1) 0 (fx (vup V (42 + 9 * i) 0 (.long st2)) (iup I (48 + 9 * i) G) L R ++ tl) = some (.inl (some (.int (nI (lsF (fdE c E (fun x => decide (x < c)) ((List.range' 0 s).map P)) c 0))), fx (vup V (42 + 9 * i) 0 (.long st2)) (iup I (48 + 9 * i) G) L R ++ tl)) := fun st2 P G hP hG => c_224c (V := vup V (42 + 9 * i) 0 (.long st2)) (I := iup I (48 + 9 * i) G) (L := L) (R := R) (tl := tl) (N := N) hN hi hc hs ((vup_na (by omega)).trans h0) ((vup_na (by omega)).trans h3) hP (by rw [iup_eq]; exact hG) (fun x hx r hr => by rw [iup_na (by omega)]; exact h46 x hx r hr) hE s 0 N _ (fun x => decide (x < c)) (by omega) (by omega) (tbi_f c (by omega))
  by_cases z : s = 0
  · subst z
    refine ⟨F, ?_⟩
    have f0 := fin st (fun x => x) F (fun k hk => absurd hk (by omega)) hF
    rw [show vup V (42 + 9 * i) 0 (.long st) = V from vup_self h42] at f0
    unfold fm_224 fg_224_0
    refine e1.trans ?_
    obtain ⟨K, eK⟩ : ∃ k, N = k + 1 := ⟨N - 1, by omega⟩
    rw [show (0 - 1 : Nat) = 0 from rfl, shF_0, show vup V (42 + 9 * i) 0 (.long st) = V from vup_self h42]
    refine Eq.trans ?_ f0
    rw [eK, fg_224_30]
    exact ev_t (by decide) (ev_b (iv_0 hi h0) rfl)
  · obtain ⟨G, e2, hG⟩ := c_224b (L := L) (R := R) (tl := tl) (N := N) (c := c) hi hs (s - 1) N (fun x => x) st V (iup I (48 + 9 * i) F) (by omega) (by omega) h0 h42 (by rw [iup_eq]; exact hF)
    rw [iup_2] at e2
    refine ⟨G, ?_⟩
    unfold fm_224 fg_224_0
    refine e1.trans ?_
    rw [show nI s - 1 = nI (s - 1) from nI_sub (b := 1) (by omega)]
    exact e2.trans (fin _ _ G (shF_lt (s := s) (s - 1) _ st (by omega) (fun x hx => hx)) hG)
