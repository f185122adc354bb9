/-! ===== choices: by cases, in the reference ===== -/
theorem fdE_ne {c : Nat} {E : Nat → Nat → Nat} (hE : ∀ x r, E x r ≤ 2000000) : ∀ (l : List Nat) (A : Nat → Bool), (∃ x, x < c ∧ A x = true) → ∃ y, y < c ∧ fdE c E A l y = true := by
  intro l
  induction l with
  | nil => intro A h; exact h
  | cons k l ih =>
    intro A ⟨x, hx, ha⟩
    exact ih (narE c E A k) (narE_ne hx ha (fun x _ => hE x k))
theorem csF_lt {c s : Nat} {E : Nat → Nat → Nat} {st : Int64} (hE : ∀ x r, E x r ≤ 2000000) (c1 : 1 ≤ c) : csF c s E st < c := by
  obtain ⟨y, y1, y2⟩ := fdE_ne (c := c) hE ((List.range' 0 s).map (shF (s - 1) (fun x => x) st).1) (fun x => decide (x < c)) ⟨0, by omega, decide_eq_true (by omega)⟩
  have := lsF_le c 0 y (by omega) (by omega) y2
  unfold csF
  omega
set_option maxRecDepth 100000 in
set_option maxHeartbeats 4000000 in
theorem r_511a {V : Nat → Nat → Value} {L : Nat → Nat → Int64} {R : Nat → Nat → Option Nat} {tl : am_H} {N s : Nat} (hs : s ≤ 24) (h8 : V 174 108 = .int (nI s)) : ∀ (m k K : Nat) (I : Nat → Nat → Int32), k + m = s → m < K → (∀ x, x < k → I 241 x = nI x) → ∃ F, fg_511_44 N K (.ref 174) (nI k) (fx V I L R ++ tl) = fg_511_72 N N (.ref 174) (nI s - 1) (fx V (iup I 241 F) L R ++ tl) ∧ ∀ x, x < s → F x = nI x := by
  intro m
  induction m with
  | zero =>
    intro k K I hk hK h
    obtain ⟨K, rfl⟩ : ∃ k, K = k + 1 := ⟨K - 1, by omega⟩
    obtain rfl : k = s := by omega
    refine ⟨I 241, ?_, h⟩
    rw [fg_511_44, iup_self]
    exact ev_b (rdI h8) (ev_t (nI_le (Nat.le_refl _) (by omega)) (ev_b (rdI h8) rfl))
  | succ m ih =>
    intro k K I hk hK h
    obtain ⟨K, rfl⟩ : ∃ k, K = k + 1 := ⟨K - 1, by omega⟩
    obtain ⟨F, e, hF⟩ := ih (k + 1) K (iup I 241 (upd (I 241) k (nI k))) (by omega) (by omega) (fun x hx => by
      rw [iup_eq]
      by_cases z : x = k
      · subst z; exact upd_eq
      · rw [upd_ne z]; exact h x (by omega))
    rw [iup_2] at e
    refine ⟨F, ?_, hF⟩
    rw [fg_511_44]
    refine ev_b (rdI h8) (ev_f (nI_ge (by omega) (by omega)) (ev_b (rdR rfl) (ev_b (qs_241 (by omega)) ?_)))
    rw [nI_1]
    exact e
/-- the order is drawn: the one that is chosen in it -/
def en72 (N : Nat) (h : am_H) : Option am_O := ((am_vR (am_pG 3176 (.ref 174) h)).bind fun v2 => (if am_pOk 12 (.ref 174) h then am_cI true (fm_516 N (.ref 174) h) (fun v5 h6 => ((am_pA 0 v2 v5 h6).bind fun v8 => some (.inl (some (.int v8), h6)))) else none))
set_option maxRecDepth 100000 in
set_option maxHeartbeats 4000000 in
theorem r_511b {L : Nat → Nat → Int64} {R : Nat → Nat → Option Nat} {tl : am_H} {N s : Nat} (hs : s ≤ 24) : ∀ (k K : Nat) (P : Nat → Nat) (st : Int64) (V : Nat → Nat → Value) (I : Nat → Nat → Int32), k < s → k < K → V 174 96 = .long st → (∀ x, x < s → I 241 x = nI (P x)) → ∃ F, fg_511_72 N K (.ref 174) (nI k) (fx V I L R ++ tl) = en72 N (fx (vup V 174 96 (.long (shF k P st).2)) (iup I 241 F) L R ++ tl) ∧ ∀ x, x < s → F x = nI ((shF k P st).1 x) := by
  intro k
  induction k with
  | zero =>
    intro K P st V I hk hK h96 h41
    obtain ⟨K, rfl⟩ : ∃ k, K = k + 1 := ⟨K - 1, by omega⟩
    rw [shF_0]
    refine ⟨I 241, ?_, h41⟩
    rw [fg_511_72, iup_self, show vup V 174 96 (.long st) = V from vup_self h96]
    exact ev_t (by decide) rfl
  | succ k ih =>
    intro K P st V I hk hK h96 h41
    obtain ⟨K, rfl⟩ : ∃ k, K = k + 1 := ⟨K - 1, by omega⟩
    obtain ⟨a, ea⟩ : ∃ a, a = drw st (k + 2) := ⟨_, rfl⟩
    have la : a < k + 2 := by rw [ea]; exact drw_lt (by omega)
    have d := x_474 (V := V) (I := I) (L := L) (R := R) (tl := tl) (k := k + 2) h96 (by omega) (by omega)
    rw [show hlf (nxt st) % (k + 2) = a from ea.symm] at d
    obtain ⟨F, e, hF⟩ := ih K (swO P (k + 1) a) (nxt st) (vup V 174 96 (.long (nxt st))) (iup I 241 (upd (upd (I 241) (k + 1) (nI (P a))) a (nI (P (k + 1))))) (by omega) (by omega) vup_eq (by rw [iup_eq]; exact sw_up h41)
    rw [vup_2, iup_2] at e
    rw [shF_s, ← ea]
    refine ⟨F, ?_, hF⟩
    rw [fg_511_72]
    dsimp only
    rw [nI_m1, show nI (k + 1) + 1 = nI (k + 2) from nI_1 _]
    refine ev_f (nI_nle (by omega) (by omega)) (ev_i rfl (ev_cI d (ev_b (rdR rfl) (ev_b (a := nI (P (k + 1))) ((qa_241 (by omega)).trans (by rw [h41 (k + 1) (by omega)])) (ev_b (rdR rfl) (ev_b (rdR rfl) (ev_b (a := nI (P a)) ((qa_241 (by omega)).trans (by rw [h41 a (by omega)])) (ev_b (qs_241 (by omega)) (ev_b (rdR rfl) (ev_b (qs_241 (by omega)) ?_))))))))))
    rw [iup_2, iup_eq]
    exact e
set_option maxRecDepth 100000 in
set_option maxHeartbeats 4000000 in
theorem r_511c {V : Nat → Nat → Value} {I : Nat → Nat → Int32} {L : Nat → Nat → Int64} {R : Nat → Nat → Option Nat} {tl : am_H} {N c s : Nat} {st : Int64} {bm : Nat → Nat} {E : Nat → Nat → Nat} (hN : 100 < N) (hc16 : c ≤ 16) (c1 : 1 ≤ c) (hs : s ≤ 24) (h4 : I 206 4 = nI 1) (h5 : V 174 105 = .int (nI c)) (h8 : V 174 108 = .int (nI s)) (h96 : V 174 96 = .long st) (h39 : ∀ x, x < c → I 239 x = nI (bm x)) (h40 : ∀ x, x < c → ∀ r, r < s → L 240 (24 * x + r) = lN (E x r)) (hE : ∀ x r, E x r ≤ 2000000) : ∃ F G, fm_511 N (.ref 174) (fx V I L R ++ tl) = some (.inl (some (.int (nI (bm (csF c s E st)))), fx (vup V 174 96 (.long (shF (s - 1) (fun x => x) st).2)) (iup (iup I 241 F) 242 G) L R ++ tl)) := by
  obtain ⟨F, e1, hF⟩ := r_511a (V := V) (L := L) (R := R) (tl := tl) (N := N) hs h8 s 0 N I (by omega) (by omega) (fun x hx => absurd hx (by omega))
  have cl := csF_lt (c := c) (s := s) (st := st) hE c1
  have ecs : lsF (fdE c E (fun x => decide (x < c)) ((List.range' 0 s).map (shF (s - 1) (fun x => x) st).1)) c 0 = csF c s E st := rfl
  have fin : ∀ (st2 : Int64) (Q : Nat → Int32), (∀ k, k < s → (shF (s - 1) (fun x => x) st).1 k < s) → (∀ x, x < s → Q x = nI ((shF (s - 1) (fun x => x) st).1 x)) → ∃ G, en72 N (fx (vup V 174 96 (.long st2)) (iup I 241 Q) L R ++ tl) = some (.inl (some (.int (nI (bm (csF c s E st)))), fx (vup V 174 96 (.long st2)) (iup (iup I 241 Q) 242 G) L R ++ tl)) := fun st2 Q hP hQ => by
    obtain ⟨G, eg⟩ := r_516 (V := vup V 174 96 (.long st2)) (I := iup I 241 Q) (L := L) (R := R) (tl := tl) (N := N) (P := (shF (s - 1) (fun x => x) st).1) (E := E) hN hc16 c1 hs hP ((vup_nj (by decide)).trans h5) ((vup_nj (by decide)).trans h8) h40 hE (by rw [iup_eq]; exact hQ)
    rw [ecs] at eg
    refine ⟨G, ?_⟩
    unfold en72
    exact ev_b (rdR rfl) (ev_i rfl (ev_cI eg (ev_b (a := nI (bm (csF c s E st))) ((qa_239 (by omega)).trans (by rw [iup_na (by decide), iup_na (by decide), h39 _ cl])) rfl)))
  have top : ∀ o, fg_511_44 N N (.ref 174) 0 (fx V I L R ++ tl) = o → fm_511 N (.ref 174) (fx V I L R ++ tl) = o := fun o k_ => by
    unfold fm_511 fg_511_0
    exact ev_b (rdR rfl) (ev_b ((qa_206 (k := 4) (by omega)).trans (congrArg some h4)) (ev_t (by decide) (ev_b (rdR rfl) (ev_b ((qa_206 (k := 4) (by omega)).trans (congrArg some h4)) (ev_t (by decide) k_)))))
  by_cases z : s = 0
  · subst z
    obtain ⟨G, eg⟩ := fin st F (fun k hk => absurd hk (by omega)) (fun x hx => absurd hx (by omega))
    refine ⟨F, G, top _ (e1.trans ?_)⟩
    rw [show (0 - 1 : Nat) = 0 from rfl, shF_0]
    obtain ⟨K, eK⟩ : ∃ k, N = k + 1 := ⟨N - 1, by omega⟩
    refine Eq.trans ?_ eg
    rw [show vup V 174 96 (.long st) = V from vup_self h96]
    conv => lhs; rw [eK, fg_511_72]
    rw [← eK]
    exact ev_t (by decide) rfl
  · obtain ⟨Q, e2, hQ⟩ := r_511b (L := L) (R := R) (tl := tl) (N := N) hs (s - 1) N (fun x => x) st V (iup I 241 F) (by omega) (by omega) h96 (by rw [iup_eq]; exact hF)
    rw [iup_2] at e2
    obtain ⟨G, eg⟩ := fin (shF (s - 1) (fun x => x) st).2 Q (shF_lt (s := s) (s - 1) _ st (by omega) (fun x hx => hx)) hQ
    refine ⟨Q, G, top _ (e1.trans ?_)⟩
    rw [show nI s - 1 = nI (s - 1) from nI_sub (b := 1) (by omega)]
    exact e2.trans eg
