/-! ===== the reference: one order; the next order ===== -/
set_option maxRecDepth 100000 in
set_option maxHeartbeats 4000000 in
theorem r_516z {V : Nat → Nat → Value} {I : Nat → Nat → Int32} {L : Nat → Nat → Int64} {R : Nat → Nat → Option Nat} {tl : am_H} {N c : Nat} {A : Nat → Bool} (hc16 : c ≤ 16) (h42 : ∀ x, x < c → I 242 x = bI (A x)) : ∀ (m p K : Nat), p + m = c → m < K → (∃ x, p ≤ x ∧ x < c ∧ A x = true) → fg_516_198 N K (.ref 174) (nI p) (fx V I L R ++ tl) = some (.inl (some (.int (nI (lsF A m p))), fx V I L R ++ tl)) := by
  intro m
  induction m with
  | zero => intro p K hp hK ⟨x, h1, h2, h3⟩; exact absurd h2 (by omega)
  | succ m ih =>
    intro p K hp hK ⟨x, h1, h2, h3⟩
    obtain ⟨K, rfl⟩ : ∃ k, K = k + 1 := ⟨K - 1, by omega⟩
    have rd : am_pA 2 (.ref 242) (nI p) (fx V I L R ++ tl) = some (bI (A p)) := (qa_242 (by omega)).trans (by rw [h42 p (by omega)])
    rw [fg_516_198, lsF]
    refine ev_b (a := Value.ref 242) rfl (ev_b rd ?_)
    by_cases a : A p = true
    · rw [if_pos a]
      exact ev_t (bI_nz a) rfl
    · rw [if_neg a]
      refine ev_f (bI_nnn a) ?_
      rw [nI_1]
      exact ih (p + 1) K (by omega) (by omega) ⟨x, by rcases Nat.eq_or_lt_of_le h1 with e | e; subst e; exact absurd h3 a; omega, h2, h3⟩
set_option maxRecDepth 100000 in
set_option maxHeartbeats 4000000 in
theorem r_516m {V : Nat → Nat → Value} {I : Nat → Nat → Int32} {L : Nat → Nat → Int64} {R : Nat → Nat → Option Nat} {tl : am_H} {N c s k : Nat} {P : Nat → Nat} {E : Nat → Nat → Nat} {A : Nat → Bool} {rec_ : Value → Int32 → Int32 → am_H → Option am_O} (hc16 : c ≤ 16) (hk : k < s) (hs : s ≤ 24) (hP : P k < s) (h5 : V 174 105 = .int (nI c)) (h41 : I 241 k = nI (P k)) (h40 : ∀ x, x < c → ∀ r, r < s → L 240 (24 * x + r) = lN (E x r)) (hE : ∀ x r, E x r ≤ 2000000) (h42 : ∀ x, x < c → I 242 x = bI (A x)) : ∀ (m p K : Nat), p + m = c → m < K → fg_516_50 N rec_ K (.ref 174) (nI k) (lN (mnE (fun x => E x (P k)) A 3000000 p)) (nI p) (fx V I L R ++ tl) = fg_516_113 N rec_ N (.ref 174) 0 (nI k) (lN (mnE (fun x => E x (P k)) A 3000000 c)) 0 (fx V I L R ++ tl) := by
  intro m
  induction m with
  | zero =>
    intro p K hp hK
    obtain ⟨K, rfl⟩ : ∃ k, K = k + 1 := ⟨K - 1, by omega⟩
    obtain rfl : p = c := by omega
    rw [fg_516_50]
    exact ev_b (rdI h5) (ev_t (nI_le (Nat.le_refl _) (by omega)) rfl)
  | succ m ih =>
    intro p K hp hK
    obtain ⟨K, rfl⟩ : ∃ k, K = k + 1 := ⟨K - 1, by omega⟩
    have rd : am_pA 2 (.ref 242) (nI p) (fx V I L R ++ tl) = some (bI (A p)) := (qa_242 (by omega)).trans (by rw [h42 p (by omega)])
    have r41 : am_pA 0 (.ref 241) (nI k) (fx V I L R ++ tl) = some (nI (P k)) := (qa_241 (by omega)).trans (by rw [h41])
    have r40 : am_pAL (.ref 240) (24 * nI p + nI (P k)) (fx V I L R ++ tl) = some (lN (E p (P k))) := by
      rw [show (24 : Int32) * nI p + nI (P k) = nI (24 * p + P k) from nI_add' p 24 (P k)]
      exact (qa_240 (by omega)).trans (by rw [h40 p (by omega) _ hP])
    have st : mnE (fun x => E x (P k)) A 3000000 (p + 1) = (if A p = true ∧ E p (P k) < mnE (fun x => E x (P k)) A 3000000 p then E p (P k) else mnE (fun x => E x (P k)) A 3000000 p) := rfl
    have ms := mnE_s (er := fun x => E x (P k)) (A := A) (s := 3000000) p
    have le := hE p (P k)
    have e := ih (p + 1) K (by omega) (by omega)
    rw [fg_516_50]
    refine ev_b (rdI h5) (ev_f (nI_ge (by omega) (by omega)) (ev_b (a := Value.ref 240) rfl (ev_b (a := Value.ref 241) rfl (ev_b r41 (ev_b r40 (ev_b (a := Value.ref 242) rfl (ev_b rd ?_)))))))
    have z := (cmpL2 (a := E p (P k)) (b := mnE (fun x => E x (P k)) A 3000000 p) (by omega) (by omega)).2
    by_cases a : A p = true
    · refine ev_f (bI_nz a) ?_
      by_cases c1 : E p (P k) < mnE (fun x => E x (P k)) A 3000000 p
      · rw [if_pos ⟨a, c1⟩] at st
        rw [st] at e
        refine ev_f (fun q => by have := z.mp q; omega) ?_
        unfold fg_516_101
        rw [nI_1]
        exact e
      · rw [if_neg (fun q => c1 q.2)] at st
        rw [st] at e
        refine ev_t (z.mpr (by omega)) ?_
        unfold fg_516_100 fg_516_101
        rw [nI_1]
        exact e
    · rw [if_neg (fun q => a q.1)] at st
      rw [st] at e
      refine ev_t (bI_zn a) ?_
      unfold fg_516_100 fg_516_101
      rw [nI_1]
      exact e
set_option maxRecDepth 100000 in
set_option maxHeartbeats 4000000 in
theorem r_516f {V : Nat → Nat → Value} {L : Nat → Nat → Int64} {R : Nat → Nat → Option Nat} {tl : am_H} {N c s k : Nat} {P : Nat → Nat} {E : Nat → Nat → Nat} {A : Nat → Bool} {rec_ : Value → Int32 → Int32 → am_H → Option am_O} (hc16 : c ≤ 16) (hk : k < s) (hs : s ≤ 24) (hP : P k < s) (h5 : V 174 105 = .int (nI c)) (h40 : ∀ x, x < c → ∀ r, r < s → L 240 (24 * x + r) = lN (E x r)) (hE : ∀ x r, E x r ≤ 2000000) : ∀ (m p K : Nat) (I : Nat → Nat → Int32), p + m = c → m < K → I 241 k = nI (P k) → (∀ x, x < c → I 242 x = bI (if x < p then narE c E A (P k) x else A x)) → ∃ F, fg_516_113 N rec_ K (.ref 174) (nI (cnB (narE c E A (P k)) p)) (nI k) (lN (mnE (fun x => E x (P k)) A 2000000 c)) (nI p) (fx V I L R ++ tl) = rec_ (.ref 174) (nI (cnB (narE c E A (P k)) c)) (nI (k + 1)) (fx V (iup I 242 F) L R ++ tl) ∧ ∀ x, x < c → F x = bI (narE c E A (P k) x) := by
  intro m
  induction m with
  | zero =>
    intro p K I hp hK h41 h42
    obtain ⟨K, rfl⟩ : ∃ k, K = k + 1 := ⟨K - 1, by omega⟩
    obtain rfl : p = c := by omega
    refine ⟨I 242, ?_, fun x hx => by rw [h42 x hx, if_pos hx]⟩
    rw [fg_516_113, iup_self]
    refine ev_b (rdI h5) (ev_t (nI_le (Nat.le_refl _) (by omega)) ?_)
    rw [nI_1]
  | succ m ih =>
    intro p K I hp hK h41 h42
    obtain ⟨K, rfl⟩ : ∃ k, K = k + 1 := ⟨K - 1, by omega⟩
    have rd : am_pA 2 (.ref 242) (nI p) (fx V I L R ++ tl) = some (bI (A p)) := (qa_242 (by omega)).trans (by rw [h42 p (by omega), if_neg (Nat.lt_irrefl _)])
    have r41 : am_pA 0 (.ref 241) (nI k) (fx V I L R ++ tl) = some (nI (P k)) := (qa_241 (by omega)).trans (by rw [h41])
    have r40 : am_pAL (.ref 240) (24 * nI p + nI (P k)) (fx V I L R ++ tl) = some (lN (E p (P k))) := by
      rw [show (24 : Int32) * nI p + nI (P k) = nI (24 * p + P k) from nI_add' p 24 (P k)]
      exact (qa_240 (by omega)).trans (by rw [h40 p (by omega) _ hP])
    have ms := mnE_s (er := fun x => E x (P k)) (A := A) (s := 2000000) c
    have le := hE p (P k)
    have z := (cmpL2 (a := E p (P k)) (b := mnE (fun x => E x (P k)) A 2000000 c) (by omega) (by omega)).1
    -- the flag is set, and counted
    have go : ∃ F, fg_516_165 N rec_ (fg_516_113 N rec_ K) (.ref 174) (nI (cnB (narE c E A (P k)) p)) (nI k) (lN (mnE (fun x => E x (P k)) A 2000000 c)) (nI p) (.ref 242) (nI p) (bI (narE c E A (P k) p)) (fx V I L R ++ tl) = rec_ (.ref 174) (nI (cnB (narE c E A (P k)) c)) (nI (k + 1)) (fx V (iup I 242 F) L R ++ tl) ∧ ∀ x, x < c → F x = bI (narE c E A (P k) x) := by
      obtain ⟨F, e, hF⟩ := ih (p + 1) K (iup I 242 (upd (I 242) p (bI (narE c E A (P k) p)))) (by omega) (by omega) ((iup_ne (by decide)).trans h41) (fun x hx => by
        rw [iup_eq]
        by_cases e : x = p
        · subst e; rw [upd_eq, if_pos (by omega)]
        · rw [upd_ne e, h42 x hx]
          by_cases d : x < p
          · rw [if_pos d, if_pos (by omega)]
          · rw [if_neg d, if_neg (by omega)])
      rw [iup_2] at e
      refine ⟨F, ?_, hF⟩
      unfold fg_516_165
      refine ev_b (qs_242 (by omega) (by cases narE c E A (P k) p <;> rfl)) (ev_b (a := Value.ref 242) rfl (ev_b (a := bI (narE c E A (P k) p)) ((qa_242 (by omega)).trans (by rw [iup_eq, upd_eq])) ?_))
      by_cases b : narE c E A (P k) p = true
      · refine ev_f (bI_nz b) ?_
        unfold fg_516_182
        rw [nI_1, nI_1]
        rw [cnB, show (narE c E A (P k) p).toNat = 1 by rw [b]; rfl] at e
        exact e
      · refine ev_t (bI_zn b) ?_
        unfold fg_516_182
        rw [nI_1, Int32.add_zero]
        rw [cnB, show (narE c E A (P k) p).toNat = 0 by rw [Bool.eq_false_iff.mpr b]; rfl] at e
        exact e
    obtain ⟨F, e, hF⟩ := go
    refine ⟨F, ?_, hF⟩
    rw [fg_516_113]
    refine ev_b (rdI h5) (ev_f (nI_ge (by omega) (by omega)) (ev_b (a := Value.ref 242) rfl (ev_b (a := Value.ref 242) rfl (ev_b rd ?_))))
    by_cases a : A p = true
    · refine ev_f (bI_nz a) (ev_b (a := Value.ref 240) rfl (ev_b (a := Value.ref 241) rfl (ev_b r41 (ev_b r40 ?_))))
      by_cases c1 : E p (P k) = mnE (fun x => E x (P k)) A 2000000 c
      · have b : narE c E A (P k) p = true := narE_t.mpr ⟨by omega, a, c1⟩
        rw [b] at e
        exact ev_f (fun q => q (z.mpr c1.symm)) e
      · have b : narE c E A (P k) p = false := Bool.eq_false_iff.mpr (fun q => c1 (narE_t.mp q).2.2)
        rw [b] at e
        exact ev_t (fun q => c1 (z.mp q).symm) e
    · have b : narE c E A (P k) p = false := Bool.eq_false_iff.mpr (fun q => a (narE_t.mp q).2.1)
      rw [b] at e
      exact ev_t (bI_zn a) e
set_option maxRecDepth 100000 in
set_option maxHeartbeats 4000000 in
theorem r_516l {V : Nat → Nat → Value} {L : Nat → Nat → Int64} {R : Nat → Nat → Option Nat} {tl : am_H} {N c s : Nat} {P : Nat → Nat} {E : Nat → Nat → Nat} (hN : 100 < N) (hc16 : c ≤ 16) (hs : s ≤ 24) (hP : ∀ k, k < s → P k < s) (h5 : V 174 105 = .int (nI c)) (h8 : V 174 108 = .int (nI s)) (h40 : ∀ x, x < c → ∀ r, r < s → L 240 (24 * x + r) = lN (E x r)) (hE : ∀ x r, E x r ≤ 2000000) : ∀ (t k K : Nat) (I : Nat → Nat → Int32) (A : Nat → Bool), k + t = s → t < K → (∀ k, k < s → I 241 k = nI (P k)) → (∀ x, x < c → I 242 x = bI (A x)) → (∀ x, A x = true → x < c) → (∃ x, A x = true) → ∃ F, fg_516_30 N K (.ref 174) (nI (cnB A c)) (nI k) (fx V I L R ++ tl) = some (.inl (some (.int (nI (lsF (fdE c E A ((List.range' k t).map P)) c 0))), fx V (iup I 242 F) L R ++ tl)) := by
  intro t
  induction t with
  | zero =>
    intro k K I A hk hK h41 h42 hA hx
    obtain ⟨K, rfl⟩ : ∃ k, K = k + 1 := ⟨K - 1, by omega⟩
    obtain ⟨x, hx⟩ := hx
    refine ⟨I 242, ?_⟩
    rw [fg_516_30, iup_self]
    refine ev_b (rdI h8) (ev_t (nI_le (by omega) (by omega)) ?_)
    exact r_516z hc16 h42 c 0 N (by omega) (by omega) ⟨x, by omega, hA x hx, hx⟩
  | succ t ih =>
    intro k K I A hk hK h41 h42 hA hx
    obtain ⟨K, rfl⟩ : ∃ k, K = k + 1 := ⟨K - 1, by omega⟩
    obtain ⟨x, hx⟩ := hx
    have cl := cnB_le (B := A) c
    by_cases c1 : cnB A c ≤ 1
    · refine ⟨I 242, ?_⟩
      rw [fg_516_30, iup_self]
      refine ev_b (rdI h8) (ev_f (nI_ge (by omega) (by omega)) (ev_t (nI_le (b := 1) c1 (by omega)) ?_))
      rw [fdE_1 hA (fun a b h1 h2 => cnB_1 c1 a b (hA a h1) (hA b h2) h1 h2) _ (fun k _ x _ => hE x k)]
      exact r_516z hc16 h42 c 0 N (by omega) (by omega) ⟨x, by omega, hA x hx, hx⟩
    · obtain ⟨m3, y, y1, y2, y3⟩ := mnE_3 (er := fun x => E x (P k)) (hA x hx) hx (fun x _ => hE x (P k))
      have em := r_516m (V := V) (I := I) (L := L) (R := R) (tl := tl) (N := N) (k := k) (rec_ := fg_516_30 N K) hc16 (by omega) hs (hP k (by omega)) h5 (h41 k (by omega)) h40 hE h42 c 0 N (by omega) (by omega)
      rw [m3] at em
      obtain ⟨F, ef, hF⟩ := r_516f (V := V) (L := L) (R := R) (tl := tl) (N := N) (k := k) (P := P) (A := A) (rec_ := fg_516_30 N K) hc16 (by omega) hs (hP k (by omega)) h5 h40 hE c 0 N I (by omega) (by omega) (h41 k (by omega)) (fun x hx => by rw [h42 x hx, if_neg (Nat.not_lt_zero _)])
      obtain ⟨G, eg⟩ := ih (k + 1) K (iup I 242 F) (narE c E A (P k)) (by omega) (by omega) (fun k hk => (iup_ne (by decide)).trans (h41 k hk)) (fun x hx => by rw [iup_eq]; exact hF x hx) (fun x hx => (narE_t.mp hx).1) ⟨y, narE_t.mpr ⟨y1, y2, y3⟩⟩
      rw [iup_2] at eg
      refine ⟨G, ?_⟩
      rw [fg_516_30, List.range'_succ, List.map_cons]
      refine ev_b (rdI h8) (ev_f (nI_ge (by omega) (by omega)) (ev_f (nI_ge (a := 1) (by omega) (by omega)) ?_))
      exact em.trans (ef.trans eg)
theorem cnB_f {c : Nat} : ∀ p, p ≤ c → cnB (fun x => decide (x < c)) p = p := by
  intro p
  induction p with
  | zero => intro _; rfl
  | succ p ih =>
    intro h
    rw [cnB, ih (by omega), decide_eq_true (by omega : p < c)]
    rfl
set_option maxRecDepth 100000 in
set_option maxHeartbeats 4000000 in
theorem r_516i {V : Nat → Nat → Value} {L : Nat → Nat → Int64} {R : Nat → Nat → Option Nat} {tl : am_H} {N c : Nat} (hc16 : c ≤ 16) (h5 : V 174 105 = .int (nI c)) : ∀ (m p K : Nat) (I : Nat → Nat → Int32), p + m = c → m < K → (∀ x, x < p → I 242 x = 1) → ∃ F, fg_516_7 N K (.ref 174) (nI c) (nI p) (fx V I L R ++ tl) = fg_516_30 N N (.ref 174) (nI c) 0 (fx V (iup I 242 F) L R ++ tl) ∧ ∀ x, x < c → F x = 1 := by
  intro m
  induction m with
  | zero =>
    intro p K I hp hK h
    obtain ⟨K, rfl⟩ : ∃ k, K = k + 1 := ⟨K - 1, by omega⟩
    obtain rfl : p = c := by omega
    refine ⟨I 242, ?_, h⟩
    rw [fg_516_7, iup_self]
    exact ev_b (rdI h5) (ev_t (nI_le (Nat.le_refl _) (by omega)) rfl)
  | succ m ih =>
    intro p K I hp hK h
    obtain ⟨K, rfl⟩ : ∃ k, K = k + 1 := ⟨K - 1, by omega⟩
    obtain ⟨F, e, hF⟩ := ih (p + 1) K (iup I 242 (upd (I 242) p 1)) (by omega) (by omega) (fun x hx => by
      rw [iup_eq]
      by_cases e : x = p
      · subst e; exact upd_eq
      · rw [upd_ne e]; exact h x (by omega))
    rw [iup_2] at e
    refine ⟨F, ?_, hF⟩
    rw [fg_516_7]
    refine ev_b (rdI h5) (ev_f (nI_ge (by omega) (by omega)) (ev_b (a := Value.ref 242) rfl (ev_b (qs_242 (by omega) rfl) ?_)))
    rw [nI_1]
    exact e
set_option maxRecDepth 100000 in
set_option maxHeartbeats 4000000 in
theorem r_516 {V : Nat → Nat → Value} {I : Nat → Nat → Int32} {L : Nat → Nat → Int64} {R : Nat → Nat → Option Nat} {tl : am_H} {N c s : Nat} {P : Nat → Nat} {E : Nat → Nat → Nat} (hN : 100 < N) (hc16 : c ≤ 16) (hc1 : 1 ≤ c) (hs : s ≤ 24) (hP : ∀ k, k < s → P k < s) (h5 : V 174 105 = .int (nI c)) (h8 : V 174 108 = .int (nI s)) (h40 : ∀ x, x < c → ∀ r, r < s → L 240 (24 * x + r) = lN (E x r)) (hE : ∀ x r, E x r ≤ 2000000) (h41 : ∀ k, k < s → I 241 k = nI (P k)) : ∃ F, fm_516 N (.ref 174) (fx V I L R ++ tl) = some (.inl (some (.int (nI (lsF (fdE c E (fun x => decide (x < c)) ((List.range' 0 s).map P)) c 0))), fx V (iup I 242 F) L R ++ tl)) := by
  obtain ⟨F, e, hF⟩ := r_516i (V := V) (L := L) (R := R) (tl := tl) (N := N) hc16 h5 c 0 N I (by omega) (by omega) (fun x hx => absurd hx (by omega))
  obtain ⟨G, eg⟩ := r_516l (V := V) (L := L) (R := R) (tl := tl) (N := N) hN hc16 hs hP h5 h8 h40 hE s 0 N (iup I 242 F) (fun x => decide (x < c)) (by omega) (by omega) (fun k hk => (iup_ne (by decide)).trans (h41 k hk)) (fun x hx => by rw [iup_eq, hF x hx, decide_eq_true hx]; rfl) (fun x hx => of_decide_eq_true hx) ⟨0, decide_eq_true (by omega)⟩
  rw [cnB_f c (Nat.le_refl _), iup_2] at eg
  refine ⟨G, ?_⟩
  unfold fm_516 fg_516_0
  exact ev_b (rdI h5) (e.trans eg)
/-! the next order -/
set_option maxRecDepth 100000 in
set_option maxHeartbeats 4000000 in
theorem r_523v {V : Nat → Nat → Value} {I : Nat → Nat → Int32} {L : Nat → Nat → Int64} {R : Nat → Nat → Option Nat} {tl : am_H} {N s : Nat} {P : Nat → Nat} (hs : s ≤ 24) (hP : ∀ k, k < s → P k < s) (h41 : ∀ k, k < s → I 241 k = nI (P k)) : ∀ (j K : Nat), j < s → j < K → fg_523_7 N K (.ref 174) (nI j + (-1)) (fx V I L R ++ tl) = (match pvO P j with | none => some (.inl (some (.int 0), fx V I L R ++ tl)) | some i => fg_523_34 N (.ref 174) (nI i) (fx V I L R ++ tl)) := by
  intro j
  induction j with
  | zero =>
    intro K hj hK
    obtain ⟨K, rfl⟩ : ∃ k, K = k + 1 := ⟨K - 1, by omega⟩
    rw [fg_523_7, pvO]
    refine ev_t (by decide) ?_
    unfold fg_523_34
    exact ev_f (by decide) rfl
  | succ j ih =>
    intro K hj hK
    obtain ⟨K, rfl⟩ : ∃ k, K = k + 1 := ⟨K - 1, by omega⟩
    have r1 : am_pA 0 (.ref 241) (nI j) (fx V I L R ++ tl) = some (nI (P j)) := (qa_241 (by omega)).trans (by rw [h41 j (by omega)])
    have r2 : am_pA 0 (.ref 241) (nI (j + 1)) (fx V I L R ++ tl) = some (nI (P (j + 1))) := (qa_241 (by omega)).trans (by rw [h41 (j + 1) (by omega)])
    have p1 := hP j (by omega)
    have p2 := hP (j + 1) (by omega)
    rw [fg_523_7, pvO, nI_m1]
    dsimp only
    rw [nI_1]
    refine ev_f (nI_nlt (b := 0) (by omega) (by omega)) (ev_b (a := Value.ref 241) rfl (ev_b r1 (ev_b (a := Value.ref 241) rfl (ev_b r2 ?_))))
    by_cases c : P j ≤ P (j + 1)
    · rw [if_pos c]
      exact ev_t (nI_le c (by omega)) rfl
    · rw [if_neg c]
      exact ev_f (nI_ge (by omega) (by omega)) (ih K (by omega) (by omega))
set_option maxRecDepth 100000 in
set_option maxHeartbeats 4000000 in
theorem r_523r {V : Nat → Nat → Value} {L : Nat → Nat → Int64} {R : Nat → Nat → Option Nat} {tl : am_H} {N s : Nat} (hs : s ≤ 24) : ∀ (m lo hi K : Nat) (P : Nat → Nat) (I : Nat → Nat → Int32), hi - lo ≤ m → hi < s → lo ≤ s → m < K → (∀ k, k < s → I 241 k = nI (P k)) → ∃ F, fg_523_107 N K (.ref 174) (nI hi) (nI lo) (fx V I L R ++ tl) = some (.inl (some (.int 1), fx V (iup I 241 F) L R ++ tl)) ∧ ∀ k, k < s → F k = nI (rvO m P lo hi k) := by
  intro m
  induction m with
  | zero =>
    intro lo hi K P I hm hh hl hK h
    obtain ⟨K, rfl⟩ : ∃ k, K = k + 1 := ⟨K - 1, by omega⟩
    by_cases c : hi ≤ lo
    · by_cases c2 : lo < 2 ^ 31
      · refine ⟨I 241, ?_, h⟩
        rw [fg_523_107, iup_self]
        exact ev_t (nI_le c c2) rfl
      · omega
    · omega
  | succ m ih =>
    intro lo hi K P I hm hh hl hK h
    obtain ⟨K, rfl⟩ : ∃ k, K = k + 1 := ⟨K - 1, by omega⟩
    by_cases c : hi ≤ lo
    · by_cases c2 : lo < 2 ^ 31
      · refine ⟨I 241, ?_, fun k hk => by rw [rvO, if_pos c]; exact h k hk⟩
        rw [fg_523_107, iup_self]
        exact ev_t (nI_le c c2) rfl
      · omega
    · have r1 : am_pA 0 (.ref 241) (nI lo) (fx V I L R ++ tl) = some (nI (P lo)) := (qa_241 (by omega)).trans (by rw [h lo (by omega)])
      have r2 : am_pA 0 (.ref 241) (nI hi) (fx V I L R ++ tl) = some (nI (P hi)) := (qa_241 (by omega)).trans (by rw [h hi (by omega)])
      obtain ⟨F, e, hF⟩ := ih (lo + 1) (hi - 1) K (swO P lo hi) (iup I 241 (upd (upd (I 241) lo (nI (P hi))) hi (nI (P lo)))) (by omega) (by omega) (by omega) (by omega) (fun k hk => by
        rw [iup_eq]
        unfold swO
        by_cases e1 : k = hi
        · subst e1; rw [upd_eq, if_pos rfl]
        · rw [upd_ne e1, if_neg e1]
          by_cases e2 : k = lo
          · subst e2; rw [upd_eq, if_pos rfl]
          · rw [upd_ne e2, if_neg e2]; exact h k hk)
      rw [iup_2] at e
      refine ⟨F, ?_, fun k hk => by rw [rvO, if_neg c]; exact hF k hk⟩
      rw [fg_523_107]
      refine ev_f (nI_ge (by omega) (by omega)) (ev_b (a := Value.ref 241) rfl (ev_b r1 (ev_b (a := Value.ref 241) rfl (ev_b (a := Value.ref 241) rfl (ev_b r2 (ev_b (qs_241 (by omega)) (ev_b (a := Value.ref 241) rfl (ev_b (qs_241 (by omega)) ?_))))))))
      rw [iup_2, iup_eq, nI_1, show nI hi + (-1) = nI (hi - 1) by rw [show hi = hi - 1 + 1 by omega, nI_m1, Nat.add_sub_cancel]]
      exact e
set_option maxRecDepth 100000 in
set_option maxHeartbeats 4000000 in
theorem r_523s {V : Nat → Nat → Value} {I : Nat → Nat → Int32} {L : Nat → Nat → Int64} {R : Nat → Nat → Option Nat} {tl : am_H} {N s i : Nat} {P : Nat → Nat} (hN : 100 < N) (hs : s ≤ 24) (hP : ∀ k, k < s → P k < s) (h8 : V 174 108 = .int (nI s)) (h41 : ∀ k, k < s → I 241 k = nI (P k)) : ∀ (j K : Nat), j < s → j < K → i < scO P i j → ∃ F, fg_523_47 N K (.ref 174) (nI i) (nI j) (fx V I L R ++ tl) = some (.inl (some (.int 1), fx V (iup I 241 F) L R ++ tl)) ∧ ∀ k, k < s → F k = nI (rvO s (swO P i (scO P i j)) (i + 1) (s - 1) k) := by
  intro j
  induction j with
  | zero => intro K hj hK hlt; exact absurd hlt (Nat.not_lt_zero _)
  | succ j ih =>
    intro K hj hK hlt
    obtain ⟨K, rfl⟩ : ∃ k, K = k + 1 := ⟨K - 1, by omega⟩
    have p2 := hP (j + 1) (by omega)
    have il : i < s := by
      have key : ∀ j, scO P i j ≤ j := by
        intro j
        induction j with
        | zero => exact Nat.le_refl _
        | succ j ih =>
          rw [scO]
          by_cases c : P i ≤ P (j + 1)
          · rw [if_pos c]; exact Nat.le_refl _
          · rw [if_neg c]; omega
      have := key (j + 1)
      omega
    have p1 := hP i il
    have r1 : am_pA 0 (.ref 241) (nI (j + 1)) (fx V I L R ++ tl) = some (nI (P (j + 1))) := (qa_241 (by omega)).trans (by rw [h41 (j + 1) (by omega)])
    have r2 : am_pA 0 (.ref 241) (nI i) (fx V I L R ++ tl) = some (nI (P i)) := (qa_241 (by omega)).trans (by rw [h41 i il])
    rw [scO] at hlt ⊢
    by_cases c : P i ≤ P (j + 1)
    · rw [if_pos c] at hlt ⊢
      obtain ⟨F, e, hF⟩ := r_523r (V := V) (L := L) (R := R) (tl := tl) (N := N) (s := s) hs s (i + 1) (s - 1) N (swO P i (j + 1)) (iup I 241 (upd (upd (I 241) i (nI (P (j + 1)))) (j + 1) (nI (P i)))) (by omega) (by omega) (by omega) (by omega) (fun k hk => by
        rw [iup_eq]
        unfold swO
        by_cases e1 : k = j + 1
        · rw [e1, upd_eq, if_pos rfl]
        · rw [upd_ne e1, if_neg e1]
          by_cases e2 : k = i
          · subst e2; rw [upd_eq, if_pos rfl]
          · rw [upd_ne e2, if_neg e2]; exact h41 k hk)
      rw [iup_2] at e
      refine ⟨F, ?_, hF⟩
      rw [fg_523_47]
      refine ev_b (a := Value.ref 241) rfl (ev_b r1 (ev_b (a := Value.ref 241) rfl (ev_b r2 (ev_t (nI_le c (by omega)) (ev_b (a := Value.ref 241) rfl (ev_b r2 (ev_b (a := Value.ref 241) rfl (ev_b (a := Value.ref 241) rfl (ev_b r1 (ev_b (qs_241 (by omega)) (ev_b (a := Value.ref 241) rfl (ev_b (qs_241 (by omega)) (ev_b (rdI h8) ?_)))))))))))))
      rw [iup_2, iup_eq, nI_1, show nI s - 1 = nI (s - 1) from nI_sub (b := 1) (by omega)]
      exact e
    · rw [if_neg c] at hlt ⊢
      obtain ⟨F, e, hF⟩ := ih K (by omega) (by omega) hlt
      refine ⟨F, ?_, hF⟩
      rw [fg_523_47]
      dsimp only
      rw [nI_m1]
      exact ev_b (a := Value.ref 241) rfl (ev_b r1 (ev_b (a := Value.ref 241) rfl (ev_b r2 (ev_f (nI_ge (by omega) (by omega)) e))))
set_option maxRecDepth 100000 in
set_option maxHeartbeats 4000000 in
theorem r_523 {V : Nat → Nat → Value} {I : Nat → Nat → Int32} {L : Nat → Nat → Int64} {R : Nat → Nat → Option Nat} {tl : am_H} {N s : Nat} {P : Nat → Nat} (hN : 100 < N) (hs : s ≤ 24) (hP : ∀ k, k < s → P k < s) (h8 : V 174 108 = .int (nI s)) (h41 : ∀ k, k < s → I 241 k = nI (P k)) : (pvO P (s - 1) = none → fm_523 N (.ref 174) (fx V I L R ++ tl) = some (.inl (some (.int 0), fx V I L R ++ tl))) ∧ ∀ i, pvO P (s - 1) = some i → i < scO P i (s - 1) → ∃ F, fm_523 N (.ref 174) (fx V I L R ++ tl) = some (.inl (some (.int 1), fx V (iup I 241 F) L R ++ tl)) ∧ ∀ k, k < s → F k = nI (rvO s (swO P i (scO P i (s - 1))) (i + 1) (s - 1) k) := by
  by_cases c0 : s = 0
  · subst c0
    refine ⟨fun _ => ?_, fun i h => by cases (show (none : Option Nat) = some i from h)⟩
    obtain ⟨K, e⟩ : ∃ k, N = k + 1 := ⟨N - 1, by omega⟩
    unfold fm_523 fg_523_0
    refine ev_b (rdI h8) ?_
    rw [e, fg_523_7]
    refine ev_t (by decide) ?_
    unfold fg_523_34
    exact ev_f (by decide) rfl
  · have e0 : nI s - 2 = nI (s - 1) + (-1) := by
      rw [show nI (s - 1) = nI s - 1 from (nI_sub (b := 1) (by omega)).symm, ← Int32.sub_eq_add_neg, Int32.sub_sub]
      rfl
    have ev := r_523v (V := V) (I := I) (L := L) (R := R) (tl := tl) (N := N) (P := P) hs hP h41 (s - 1) N (by omega) (by omega)
    refine ⟨fun h => ?_, fun i h hlt => ?_⟩
    · rw [h] at ev
      unfold fm_523 fg_523_0
      refine ev_b (rdI h8) ?_
      rw [e0]
      exact ev
    · rw [h] at ev
      obtain ⟨F, e, hF⟩ := r_523s (V := V) (I := I) (L := L) (R := R) (tl := tl) (N := N) (P := P) (i := i) hN hs hP h8 h41 (s - 1) N (by omega) (by omega) hlt
      refine ⟨F, ?_, hF⟩
      unfold fm_523 fg_523_0
      refine ev_b (rdI h8) ?_
      rw [e0]
      refine ev.trans ?_
      show fg_523_34 N (.ref 174) (nI i) (fx V I L R ++ tl) = _
      have key : ∀ j, scO P i j ≤ j := by
        intro j
        induction j with
        | zero => exact Nat.le_refl _
        | succ j ih =>
          rw [scO]
          by_cases c : P i ≤ P (j + 1)
          · rw [if_pos c]; exact Nat.le_refl _
          · rw [if_neg c]; omega
      have := key (s - 1)
      unfold fg_523_34
      refine ev_t (nI_pos' (by omega)) (ev_b (rdI h8) ?_)
      rw [show nI s - 1 = nI (s - 1) from nI_sub (b := 1) (by omega)]
      exact e
