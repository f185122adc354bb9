/-! ===== a member is chosen ===== -/
/-- the place that a choice comes to, and the stream's state -/
def chF (ch T c s : Nat) (E : Nat → Nat → Nat) (bt : Nat → Nat → Bool) (fr : Nat → Bool) (st : Int64) : Nat × Int64 := if ch = 0 then tnF bt c (T - 1) (nxt st) (drw st c) else if ch = 1 then (csF c s E st, (shF (s - 1) (fun x => x) st).2) else ((fnP fr c 0 (drw st (cnB fr c))).toNatClampNeg, nxt st)
theorem fr_a0 {fr : Nat → Bool} {c k : Nat} (hc : c ≤ 16) (hk : k < cnB fr c) : (fnP fr c 0 k).toNatClampNeg < c ∧ fnP fr c 0 k = nI (fnP fr c 0 k).toNatClampNeg := by
  have z : cnB fr 0 = 0 := rfl
  obtain ⟨q, q1, q2⟩ := cnB_a (B := fr) (c := c) c 0 k (by omega) (by omega)
  rw [q2, nI_clamp (by omega)]
  exact ⟨q1, rfl⟩
theorem fr_at {fr : Nat → Bool} {c : Nat} {st : Int64} (hc : c ≤ 16) (hf : ∃ p, p < c ∧ fr p = true) : 1 ≤ cnB fr c ∧ (fnP fr c 0 (drw st (cnB fr c))).toNatClampNeg < c ∧ fnP fr c 0 (drw st (cnB fr c)) = nI (fnP fr c 0 (drw st (cnB fr c))).toNatClampNeg := by
  obtain ⟨p, p1, p2⟩ := hf
  have h1 := cnB_pos c p1 p2
  have hd := drw_lt (st := st) (show 0 < cnB fr c by omega)
  generalize drw st (cnB fr c) = k at hd ⊢
  exact ⟨h1, fr_a0 hc hd⟩
theorem chF_lt {ch T c s : Nat} {E : Nat → Nat → Nat} {bt : Nat → Nat → Bool} {fr : Nat → Bool} {st : Int64} (hc : c ≤ 16) (c1 : 1 ≤ c) (hE : ∀ x r, E x r ≤ 2000000) (hf : ∃ p, p < c ∧ fr p = true) : (chF ch T c s E bt fr st).1 < c := by
  unfold chF
  by_cases h0 : ch = 0
  · rw [if_pos h0]; exact tnF_lt _ _ _ (drw_lt (by omega))
  · rw [if_neg h0]
    by_cases h1 : ch = 1
    · rw [if_pos h1]; exact csF_lt hE c1
    · rw [if_neg h1]; exact (fr_at hc hf).2.1
set_option maxRecDepth 100000 in
set_option maxHeartbeats 4000000 in
theorem c_222 {V : Nat → Nat → Value} {I : Nat → Nat → Int32} {L : Nat → Nat → Int64} {R : Nat → Nat → Option Nat} {tl : am_H} {N i c s T ch : Nat} {st : Int64} {bm : Nat → Nat} {E : Nat → Nat → Nat} {bt : Nat → Nat → Bool} {fr : Nat → Bool} (hN : 200 < N) (hi : i < 4) (hc : c ≤ 16) (c1 : 1 ≤ c) (hs : s ≤ 24) (hT : T ≤ 100) (T1 : 1 ≤ T) (hch : ch < 3) (h0 : V (40 + 9 * i) 0 = .int (nI c)) (h3 : V (40 + 9 * i) 3 = .int (nI s)) (h42 : V (42 + 9 * i) 0 = .long st) (h41 : ∀ x, x < c → I (41 + 9 * i) x = nI (bm x)) (h46 : ∀ x, x < c → ∀ r, r < s → I (46 + 9 * i) (24 * x + r) = nI (E x r)) (hE : ∀ x r, E x r ≤ 2000000) (hf : ∃ p, p < c ∧ fr p = true) (h221 : ∀ (V : Nat → Nat → Value) p q, p < c → q < c → fm_221 (.ref (40 + 9 * i)) (nI p) (nI q) (fx V I L R ++ tl) = some (.inl (some (.int (nI (bt p q).toNat)), fx V I L R ++ tl))) (h228 : ∀ (V : Nat → Nat → Value) p, V (40 + 9 * i) 0 = .int (nI c) → p < c → fm_228 N (.ref (40 + 9 * i)) (nI p) (fx V I L R ++ tl) = some (.inl (some (.int (nI (fr p).toNat)), (fx V I L R ++ tl)))) : ∃ F, fm_222 N (.ref (40 + 9 * i)) (nI ch) (nI T) (fx V I L R ++ tl) = some (.inl (some (.int (nI (bm (chF ch T c s E bt fr st).1))), fx (vup V (42 + 9 * i) 0 (.long (chF ch T c s E bt fr st).2)) (iup I (48 + 9 * i) F) L R ++ tl)) := by
  have lt := chF_lt (ch := ch) (T := T) (s := s) (bt := bt) (st := st) hc c1 hE hf
  have fin : ∀ (p : Nat) (W : Nat → Nat → Value) (F : Nat → Int32), p < c → W (40 + 9 * i) 0 = .int (nI c) → fg_222_39 N (.ref (40 + 9 * i)) (nI p) (fx W (iup I (48 + 9 * i) F) L R ++ tl) = some (.inl (some (.int (nI (bm p))), fx W (iup I (48 + 9 * i) F) L R ++ tl)) := fun p W F hp w0 => by
    unfold fg_222_39
    exact ev_f (nI_pos (by omega)) (ev_b (iv_0 hi w0) (ev_f (nI_ge (by omega) (by omega)) (ev_b (ir_1 hi) (ev_b (a := nI (bm p)) ((ia_41 hi (by omega)).trans (by rw [iup_na (by omega), h41 p hp])) rfl))))
  rcases (by omega : ch = 0 ∨ ch = 1 ∨ ch = 2) with rfl | rfl | rfl
  · have e := c_223 (V := V) (I := I) (L := L) (R := R) (tl := tl) hN hi hc c1 hT T1 h221 h0 h42
    refine ⟨I (48 + 9 * i), ?_⟩
    have ec : chF 0 T c s E bt fr st = tnF bt c (T - 1) (nxt st) (hlf (nxt st) % c) := by unfold chF; rw [if_pos rfl]; rfl
    rw [ec] at lt ⊢
    have f := fin _ (vup V (42 + 9 * i) 0 (.long (tnF bt c (T - 1) (nxt st) (hlf (nxt st) % c)).2)) (I (48 + 9 * i)) lt ((vup_na (by omega)).trans h0)
    rw [iup_self] at f ⊢
    unfold fm_222 fg_222_0
    exact ev_f (fun u => u rfl) (ev_i (io_1 hi) (ev_cI e f))
  · obtain ⟨F, e⟩ := c_224 (V := V) (I := I) (L := L) (R := R) (tl := tl) (N := N) (by omega) hi hc hs h0 h3 h42 h46 hE
    refine ⟨F, ?_⟩
    have ec : chF 1 T c s E bt fr st = (csF c s E st, (shF (s - 1) (fun x => x) st).2) := by unfold chF; rw [if_neg (by decide), if_pos rfl]
    rw [ec] at lt ⊢
    unfold fm_222 fg_222_0
    exact ev_t (by decide) (ev_f (fun u => u rfl) (ev_i (io_1 hi) (ev_cI e (fin _ _ F lt ((vup_na (by omega)).trans h0)))))
  · obtain ⟨x1, x2, x3⟩ := fr_at (st := st) hc hf
    have cl := cnB_le (B := fr) c
    have hd := drw_lt (st := st) (show 0 < cnB fr c by omega)
    have e1 := c_227l (V := V) (I := I) (L := L) (R := R) (tl := tl) (N := N) (P := fr) hi hc h0 (fun p hp => h228 V p h0 hp) c 0 N (by omega) (by omega)
    have d := y_192i (V := V) (I := I) (L := L) (R := R) (tl := tl) (k := cnB fr c) hi h42 x1 (by omega)
    rw [show hlf (nxt st) % cnB fr c = drw st (cnB fr c) from rfl] at d
    have n0 : vup V (42 + 9 * i) 0 (.long (nxt st)) (40 + 9 * i) 0 = .int (nI c) := (vup_na (by omega)).trans h0
    have e2 := c_229l (V := vup V (42 + 9 * i) 0 (.long (nxt st))) (I := I) (L := L) (R := R) (tl := tl) (N := N) (P := fr) hi hc n0 (fun p hp => h228 _ p n0 hp) c 0 (drw st (cnB fr c)) N (by omega) (by omega) (by omega)
    rw [x3] at e2
    refine ⟨I (48 + 9 * i), ?_⟩
    have ec : chF 2 T c s E bt fr st = ((fnP fr c 0 (drw st (cnB fr c))).toNatClampNeg, nxt st) := by unfold chF; rw [if_neg (by decide), if_neg (by decide)]
    rw [ec] at lt ⊢
    have f := fin _ (vup V (42 + 9 * i) 0 (.long (nxt st))) (I (48 + 9 * i)) lt n0
    rw [iup_self] at f ⊢
    unfold fm_222 fg_222_0
    refine ev_t (by decide) (ev_t (by decide) (ev_b (ir_2 hi) (ev_i (io_1 hi) ?_)))
    unfold fm_227 fg_227_0
    refine ev_cI e1 (ev_i (yo_8 hi) (ev_cI d (ev_i (io_1 hi) ?_)))
    unfold fm_229 fg_229_0
    exact ev_cI e2 f
set_option maxRecDepth 100000 in
set_option maxHeartbeats 4000000 in
theorem r_511 {V : Nat → Nat → Value} {I : Nat → Nat → Int32} {L : Nat → Nat → Int64} {R : Nat → Nat → Option Nat} {tl : am_H} {N c s T ch : Nat} {st : Int64} {bm : Nat → Nat} {E : Nat → Nat → Nat} {bt : Nat → Nat → Bool} {fr : Nat → Bool} (hN : 200 < N) (hc : c ≤ 16) (c1 : 1 ≤ c) (hs : s ≤ 24) (hT : T ≤ 100) (T1 : 1 ≤ T) (hch : ch < 3) (h6 : I 206 2 = nI T) (h4 : I 206 4 = nI ch) (h5 : V 174 105 = .int (nI c)) (h8 : V 174 108 = .int (nI s)) (h96 : V 174 96 = .long st) (h39 : ∀ x, x < c → I 239 x = nI (bm x)) (h40 : ∀ x, x < c → ∀ r, r < s → L 240 (24 * x + r) = lN (E x r)) (hE : ∀ x r, E x r ≤ 2000000) (hf : ∃ p, p < c ∧ fr p = true) (h508 : ∀ (V : Nat → Nat → Value) p q, p < c → q < c → fm_508 (.ref 174) (nI p) (nI q) (fx V I L R ++ tl) = some (.inl (some (.int (nI (bt p q).toNat)), fx V I L R ++ tl))) (h514 : ∀ (V : Nat → Nat → Value) p, V 174 105 = .int (nI c) → p < c → fm_514 N (.ref 174) (nI p) (fx V I L R ++ tl) = some (.inl (some (.int (nI (fr p).toNat)), (fx V I L R ++ tl)))) : ∃ F G, fm_511 N (.ref 174) (fx V I L R ++ tl) = some (.inl (some (.int (nI (bm (chF ch T c s E bt fr st).1))), fx (vup V 174 96 (.long (chF ch T c s E bt fr st).2)) (iup (iup I 241 F) 242 G) L R ++ tl)) := by
  have lt := chF_lt (ch := ch) (T := T) (s := s) (bt := bt) (st := st) hc c1 hE hf
  have idd : iup (iup I 241 (I 241)) 242 (I 242) = I := by rw [iup_self, iup_self]
  rcases (by omega : ch = 0 ∨ ch = 1 ∨ ch = 2) with rfl | rfl | rfl
  · have e := r_512 (V := V) (I := I) (L := L) (R := R) (tl := tl) (N := N) hN hc c1 hT T1 h6 h39 h508 h5 h96
    refine ⟨I 241, I 242, ?_⟩
    have ec : chF 0 T c s E bt fr st = tnF bt c (T - 1) (nxt st) (hlf (nxt st) % c) := by unfold chF; rw [if_pos rfl]; rfl
    rw [ec, idd]
    unfold fm_511 fg_511_0
    exact ev_b (rdR rfl) (ev_b ((qa_206 (k := 4) (by omega)).trans (congrArg some h4)) (ev_f (fun u => u rfl) (ev_i rfl (ev_cI e rfl))))
  · obtain ⟨F, G, e⟩ := r_511c (V := V) (I := I) (L := L) (R := R) (tl := tl) (N := N) (by omega) hc c1 hs h4 h5 h8 h96 h39 h40 hE
    refine ⟨F, G, ?_⟩
    have ec : chF 1 T c s E bt fr st = (csF c s E st, (shF (s - 1) (fun x => x) st).2) := by unfold chF; rw [if_neg (by decide), if_pos rfl]
    rw [ec]
    exact e
  · obtain ⟨x1, x2, x3⟩ := fr_at (st := st) hc hf
    have cl := cnB_le (B := fr) c
    have hd := drw_lt (st := st) (show 0 < cnB fr c by omega)
    have e1 := r_513l (V := V) (I := I) (L := L) (R := R) (tl := tl) (N := N) (P := fr) hc h5 (fun p hp => h514 V p h5 hp) c 0 N (by omega) (by omega)
    have d := x_474 (V := V) (I := I) (L := L) (R := R) (tl := tl) (k := cnB fr c) h96 x1 (by omega)
    rw [show hlf (nxt st) % cnB fr c = drw st (cnB fr c) from rfl] at d
    have n5 : vup V 174 96 (.long (nxt st)) 174 105 = .int (nI c) := (vup_nj (by decide)).trans h5
    have e2 := r_515l (V := vup V 174 96 (.long (nxt st))) (I := I) (L := L) (R := R) (tl := tl) (N := N) (P := fr) hc n5 (fun p hp => h514 _ p n5 hp) c 0 (drw st (cnB fr c)) N (by omega) (by omega) (by omega)
    rw [x3] at e2
    refine ⟨I 241, I 242, ?_⟩
    have ec : chF 2 T c s E bt fr st = ((fnP fr c 0 (drw st (cnB fr c))).toNatClampNeg, nxt st) := by unfold chF; rw [if_neg (by decide), if_neg (by decide)]
    rw [ec] at lt ⊢
    rw [idd]
    have lt' : (fnP fr c 0 (drw st (cnB fr c))).toNatClampNeg < c := lt
    unfold fm_511 fg_511_0
    refine ev_b (rdR rfl) (ev_b ((qa_206 (k := 4) (by omega)).trans (congrArg some h4)) (ev_t (by decide) (ev_b (rdR rfl) (ev_b ((qa_206 (k := 4) (by omega)).trans (congrArg some h4)) (ev_f (fun u => u rfl) (ev_b (rdR rfl) (ev_i rfl ?_)))))))
    unfold fm_513 fg_513_0
    refine ev_cI e1 (ev_i rfl (ev_cI d (ev_i rfl ?_)))
    unfold fm_515 fg_515_0
    exact ev_cI e2 (ev_b ((qa_239 (by omega)).trans (congrArg some (h39 _ lt'))) rfl)
