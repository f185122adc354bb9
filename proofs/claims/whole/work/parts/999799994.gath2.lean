/-! ===== the reference: the errors of the members, and the one that is chosen in an order ===== -/
def scOd : List Nat := [48, 49, 50, 51, 52, 53, 54, 58, 59, 65, 66, 13, 14, 15, 108]
def siOd : List Nat := [194, 212, 213, 214, 215, 217, 186, 187, 241]
def frOd (V W : Nat → Nat → Value) (I J : Nat → Nat → Int32) (L M : Nat → Nat → Int64) : Prop := (∀ a j, (a = 174 → ¬ j ∈ scOd) → W a j = V a j) ∧ (∀ y, ¬ y ∈ siOd → J y = I y) ∧ (∀ y, y ≠ 240 → M y = L y) ∧ (wt V → wt W)
theorem frOd_r {V : Nat → Nat → Value} {I : Nat → Nat → Int32} {L : Nat → Nat → Int64} : frOd V V I I L L := ⟨fun _ _ _ => rfl, fun _ _ => rfl, fun _ _ => rfl, id⟩
theorem frOd_t {V W X : Nat → Nat → Value} {I J K : Nat → Nat → Int32} {L M N : Nat → Nat → Int64} (h1 : frOd V W I J L M) (h2 : frOd W X J K M N) : frOd V X I K L N := ⟨fun a j h => (h2.1 a j h).trans (h1.1 a j h), fun y h => (h2.2.1 y h).trans (h1.2.1 y h), fun y a => (h2.2.2.1 y a).trans (h1.2.2.1 y a), fun w => h2.2.2.2 (h1.2.2.2 w)⟩
theorem frOd_k {V W : Nat → Nat → Value} {I J : Nat → Nat → Int32} {L M : Nat → Nat → Int64} (h : frOd V W I J L M) : keepL V W I J L M := by
  have vr : ∀ j, j ∈ vRel 174 → ¬ j ∈ scOd := by decide
  have ir : ∀ y, y ∈ iRel → ¬ y ∈ siOd := by decide
  exact ⟨⟨fun a j hj => h.1 a j (fun e => by subst e; exact vr j hj), fun y hy => h.2.1 y (ir y hy), h.2.2.2⟩, fun y hy => h.2.2.1 y (fun e => by subst e; revert hy; decide)⟩
theorem frOd_Q {V W : Nat → Nat → Value} {I J : Nat → Nat → Int32} {L : Nat → Nat → Int64} (h : frQ V W I J) : frOd V W I J L L := by
  have k1 : ∀ j, j ∈ scR → j ∈ scOd := by decide
  have k2 : ∀ y, y ∈ siR → y ∈ siOd := by decide
  exact ⟨fun a j hj => h.1 a j (fun e q => hj e (k1 j q)), fun y hy => h.2.1 y (fun q => hy (k2 y q)), fun _ _ => rfl, h.2.2⟩
theorem frOd_d {V : Nat → Nat → Value} {I : Nat → Nat → Int32} {L : Nat → Nat → Int64} {kd ln sz b : Nat} : frOd V (dkV V kd ln sz) I (dkI I b sz) L L := ⟨fun a j hj => dk_o (fun e => by
    refine ⟨?_, ?_, ?_⟩ <;> (intro e2; subst e2; exact hj e (by decide))), fun y hy => dkI_o (fun e => by subst e; exact hy (by decide)) (fun e => by subst e; exact hy (by decide)), fun _ _ => rfl, fun h => wt_i (wt_i (wt_i h (by decide)) (by decide)) (by decide)⟩
theorem frOd_l {V : Nat → Nat → Value} {I : Nat → Nat → Int32} {L : Nat → Nat → Int64} {F : Nat → Int64} : frOd V V I I L (lup L 240 F) := ⟨fun _ _ _ => rfl, fun _ _ => rfl, fun z h1 => lup_na (fun e => by omega), id⟩
theorem frOd_i {V : Nat → Nat → Value} {I : Nat → Nat → Int32} {L : Nat → Nat → Int64} {F : Nat → Int32} : frOd V V I (iup I 241 F) L L := ⟨fun _ _ _ => rfl, fun z hz => iup_na (fun e => by subst e; exact hz (by decide)), fun _ _ => rfl, id⟩
theorem frOd_8 {V : Nat → Nat → Value} {I : Nat → Nat → Int32} {L : Nat → Nat → Int64} {x : Int32} : frOd V (vup V 174 108 (.int x)) I I L L := ⟨fun a j hj => by
    by_cases c : a = 174
    · subst c
      exact vup_nj (fun e => by subst e; exact hj rfl (by decide))
    · exact vup_na c, fun _ _ => rfl, fun _ _ => rfl, fun h => wt_i h (by decide)⟩
set_option maxRecDepth 100000 in
set_option maxHeartbeats 4000000 in
theorem r_522l {V : Nat → Nat → Value} {I : Nat → Nat → Int32} {L : Nat → Nat → Int64} {R : Nat → Nat → Option Nat} {tl : am_H} {I0 : Nat → Nat → Int32} {N m : Nat} (hc : csK V I I0 m) : ∀ (t k K : Nat), k + t = m → t < K → fg_522_4 N K (.ref 174) (nI (snN I0 k)) (nI k) (fx V I L R ++ tl) = some (.inl (some (.int (nI (snN I0 m))), fx V I L R ++ tl)) := by
  have m24 := hc.2.2.1
  intro t
  induction t with
  | zero =>
    intro k K hk hK
    obtain ⟨K, rfl⟩ : ∃ k, K = k + 1 := ⟨K - 1, by omega⟩
    obtain rfl : k = m := by omega
    rw [fg_522_4]
    exact ev_b (rdI hc.2.1) (ev_t (nI_le (Nat.le_refl _) (by omega)) rfl)
  | succ t ih =>
    intro k K hk hK
    obtain ⟨K, rfl⟩ : ∃ k, K = k + 1 := ⟨K - 1, by omega⟩
    have rd : am_pA 2 (.ref 202) (nI k) (fx V I L R ++ tl) = some (I0 202 k) := (qa_202 (by omega)).trans (by rw [hc.2.2.2.2.1 202 (by omega) (by omega)])
    have e := ih (k + 1) K (by omega) (by omega)
    rw [fg_522_4]
    refine ev_b (rdI hc.2.1) (ev_f (nI_ge (by omega) (by omega)) (ev_b (a := Value.ref 202) rfl (ev_b rd ?_)))
    by_cases c : I0 202 k = 0
    · rw [snN_p c] at e
      refine ev_t c ?_
      unfold fg_522_27
      rw [nI_1, nI_1]
      exact e
    · rw [snN_n c] at e
      refine ev_f c ?_
      unfold fg_522_27
      rw [nI_1, show nI (snN I0 k) + 0 = nI (snN I0 k) by rw [Int32.add_zero]]
      exact e
theorem r_522 {V : Nat → Nat → Value} {I : Nat → Nat → Int32} {L : Nat → Nat → Int64} {R : Nat → Nat → Option Nat} {tl : am_H} {I0 : Nat → Nat → Int32} {N m : Nat} (hN : 100 < N) (hc : csK V I I0 m) : fm_522 N (.ref 174) (fx V I L R ++ tl) = some (.inl (some (.int (nI (snN I0 m))), fx V I L R ++ tl)) := by
  unfold fm_522 fg_522_0
  have := hc.2.2.1
  exact r_522l hc m 0 N (by omega) (by omega)
set_option maxRecDepth 100000 in
set_option maxHeartbeats 4000000 in
theorem r_506i {R : Nat → Nat → Option Nat} {tl : am_H} {V0 : Nat → Nat → Value} {I0 : Nat → Nat → Int32} {N c m n lm j q : Nat} {Ob : Nat → Nat → Int32 × Nat × Int32} {bm : Nat → Nat} {E : Nat → Nat → Nat} {rc : Value → Int32 → am_H → Option am_O} (hN : 5000 < N) (hc16 : c ≤ 16) (hn : n ≤ 600) (hlo : 10 ≤ lm) (hhi : lm ≤ 2000) (h6 : I0 206 0 = nI lm) (hB : ∀ b, b < n → bK R tl I0 b) (hO : oB I0 lm n m Ob) (hm : ∀ x, x < c → bm x < n) (hj : j < m) (hq : q < 24) (hE : ∀ x, x < c → E x q = erN (Ob (bm x) j) (I0 200 j)) : ∀ (t p K : Nat) (V : Nat → Nat → Value) (I : Nat → Nat → Int32) (L : Nat → Nat → Int64), p + t = c → t < K → wt V → keep V0 V I0 I → csK V I I0 m → V 174 105 = .int (nI c) → V 174 108 = .int (nI q) → (∀ x, x < c → I 239 x = nI (bm x)) → (∀ x, x < c → ∀ r, r < q → L 240 (24 * x + r) = lN (E x r)) → (∀ x, x < p → L 240 (24 * x + q) = lN (E x q)) → ∃ W J M, fg_506_42 N rc K (.ref 174) (nI j) (nI p) (fx V I L R ++ tl) = rc (.ref 174) (nI (j + 1)) (fx (vup W 174 108 (.int (nI (q + 1)))) J M R ++ tl) ∧ (∀ x, x < c → ∀ r, r < q + 1 → M 240 (24 * x + r) = lN (E x r)) ∧ J 241 = I 241 ∧ frOd V W I J L M := by
  intro t
  induction t with
  | zero =>
    intro p K V I L hp hK hw hk hc h5 h8 h39 hL hL2
    obtain ⟨K, rfl⟩ : ∃ k, K = k + 1 := ⟨K - 1, by omega⟩
    obtain rfl : p = c := by omega
    refine ⟨V, I, L, ?_, fun x hx r hr => ?_, rfl, frOd_r⟩
    · rw [fg_506_42]
      refine ev_b (rdI h5) (ev_t (nI_le (Nat.le_refl _) (by omega)) (ev_b (rdI h8) ?_))
      rw [nI_1]
      refine ev_b qp_174_108 ?_
      unfold fg_506_95
      rw [nI_1]
    · rcases (by omega : r < q ∨ r = q) with e | e
      · exact hL x hx r e
      · subst e; exact hL2 x hx
  | succ t ih =>
    intro p K V I L hp hK hw hk hc h5 h8 h39 hL hL2
    obtain ⟨K, rfl⟩ : ∃ k, K = k + 1 := ⟨K - 1, by omega⟩
    have hbn := hm p (by omega)
    obtain ⟨b1, b2, b3, b4, a, it, f, b5, b6, b7⟩ := hB (bm p) hbn
    have m24 := hc.2.2.1
    obtain ⟨e2, g2⟩ := r_ldb (V := V0) (W := V) (I := I0) (J := I) (L := L) (R := R) (tl := tl) (N := N) (b := bm p) (by omega) (by omega) hk b1 b2 b3 b4 h6 hlo hhi
    have t2 := frOd_d (V := V) (I := I) (L := L) (kd := kdB I0 (bm p)) (ln := lnB I0 (bm p)) (sz := szB I0 (bm p)) (b := bm p)
    have c2 := csK_c (frOd_k t2).1 hc
    obtain ⟨W3, J3, e3, f3⟩ := r_425 (L := L) (R := R) (tl := tl) (N := N) (k := j) (o := Ob (bm p) j) hN (t2.2.2.2 hw) g2 (by omega) (cO_c (fun y h1 h2 => c2.2.2.2.2.1 y h1 h2) (hO (bm p) hbn j hj))
    rw [c2.2.2.2.2.1 200 (by omega) (by omega), ← hE p (by omega)] at e3
    have t3 := frOd_t t2 (frOd_Q (L := L) f3)
    have t4 := frOd_t t3 (frOd_l (V := W3) (I := J3) (L := L) (F := vp_updL (L 240) (24 * p + q) (lN (E p q))))
    have j239 : J3 239 = I 239 := t3.2.1 239 (by decide)
    obtain ⟨W, J, M, e5, x1, x2, x3⟩ := ih (p + 1) K W3 J3 (lup L 240 (vp_updL (L 240) (24 * p + q) (lN (E p q)))) (by omega) (by omega) (t4.2.2.2 hw) (keep_t hk (frOd_k t4).1) (csK_c (frOd_k t4).1 hc) ((t3.1 174 105 (fun _ => by decide)).trans h5) ((f3.1 174 108 (fun _ => by decide)).trans ((dk_o (fun _ => by decide)).trans h8)) (by rw [j239]; exact h39) (fun x hx r hr => by
        rw [lup_eq, updL_ne (by omega)]
        exact hL x hx r hr) (fun x hx => by
        rw [lup_eq]
        by_cases e : x = p
        · subst e; exact updL_eq
        · rw [updL_ne (by omega)]
          exact hL2 x (by omega))
    refine ⟨W, J, M, ?_, x1, x2.trans ((f3.2.1 241 (by decide)).trans (dkI_o (by decide) (by decide))), frOd_t t4 x3⟩
    rw [fg_506_42]
    refine ev_b (rdI h5) (ev_f (nI_ge (by omega) (by omega)) (ev_b (a := Value.ref 239) rfl (ev_b (a := nI (bm p)) ((qa_239 (by omega)).trans (by rw [h39 p (by omega)])) (ev_i rfl (ev_cV e2 (ev_b (a := Value.ref 240) rfl (ev_b (rdI ((dk_o (fun _ => by decide)).trans h8)) (ev_i rfl (ev_cL e3 ?_)))))))))
    rw [show (24 : Int32) * nI p + nI q = nI (24 * p + q) from nI_add' p 24 q, nI_1]
    exact ev_b (qs_240 (by omega)) e5
set_option maxRecDepth 100000 in
set_option maxHeartbeats 4000000 in
theorem r_506l {R : Nat → Nat → Option Nat} {tl : am_H} {V0 : Nat → Nat → Value} {I0 : Nat → Nat → Int32} {N c m n lm : Nat} {F : Nat → Int32} {Ob : Nat → Nat → Int32 × Nat × Int32} {bm : Nat → Nat} (hN : 5000 < N) (hc16 : c ≤ 16) (hn : n ≤ 600) (hlo : 10 ≤ lm) (hhi : lm ≤ 2000) (h6 : I0 206 0 = nI lm) (hB : ∀ b, b < n → bK R tl I0 b) (hO : oB I0 lm n m Ob) (hm : ∀ x, x < c → bm x < n) (m24 : m ≤ 24) (hF : scK I0 m F) : ∀ (t j K : Nat) (V : Nat → Nat → Value) (I : Nat → Nat → Int32) (L : Nat → Nat → Int64), j + t = m → t < K → wt V → keep V0 V I0 I → csK V I I0 m → V 174 105 = .int (nI c) → V 174 108 = .int (nI (snN I0 j)) → (∀ x, x < c → I 239 x = nI (bm x)) → (∀ r, r < snN I0 j → I 241 r = nI r) → (∀ x, x < c → ∀ r, r < snN I0 j → L 240 (24 * x + r) = lN (enR I0 F (Ob (bm x)) r)) → ∃ W J M, fg_506_7 N K (.ref 174) (nI j) (fx V I L R ++ tl) = some (.inl (none, fx W J M R ++ tl)) ∧ W 174 108 = .int (nI (snN I0 m)) ∧ (∀ r, r < snN I0 m → J 241 r = nI r) ∧ (∀ x, x < c → ∀ r, r < snN I0 m → M 240 (24 * x + r) = lN (enR I0 F (Ob (bm x)) r)) ∧ frOd V W I J L M := by
  intro t
  induction t with
  | zero =>
    intro j K V I L hj hK hw hk hc h5 h8 h39 h41 hL
    obtain ⟨K, rfl⟩ : ∃ k, K = k + 1 := ⟨K - 1, by omega⟩
    obtain rfl : j = m := by omega
    refine ⟨V, I, L, ?_, h8, h41, hL, frOd_r⟩
    rw [fg_506_7]
    exact ev_b (rdI hc.2.1) (ev_t (nI_le (Nat.le_refl _) (by omega)) rfl)
  | succ t ih =>
    intro j K V I L hj hK hw hk hc h5 h8 h39 h41 hL
    obtain ⟨K, rfl⟩ : ∃ k, K = k + 1 := ⟨K - 1, by omega⟩
    have rd : am_pA 2 (.ref 202) (nI j) (fx V I L R ++ tl) = some (I0 202 j) := (qa_202 (by omega)).trans (by rw [hc.2.2.2.2.1 202 (by omega) (by omega)])
    have sl := snN_le (I0 := I0) j
    rw [fg_506_7]
    by_cases c0 : I0 202 j = 0
    · have eF : clN F (snN I0 j) = j := clN_at (hF j (by omega) c0) (by omega)
      obtain ⟨I1, ei⟩ : ∃ X, X = iup I 241 (upd (I 241) (snN I0 j) (nI (snN I0 j))) := ⟨_, rfl⟩
      have t1 : frOd V V I I1 L L := by rw [ei]; exact frOd_i
      obtain ⟨W, J, M, e1, x1, x2, x3⟩ := r_506i (R := R) (tl := tl) (V0 := V0) (I0 := I0) (N := N) (c := c) (m := m) (n := n) (lm := lm) (j := j) (q := snN I0 j) (Ob := Ob) (bm := bm) (E := fun x r => enR I0 F (Ob (bm x)) r) (rc := fg_506_7 N K) hN hc16 hn hlo hhi h6 hB hO hm (by omega) (by omega) (fun x _ => by show erN (Ob (bm x) (clN F (snN I0 j))) (I0 200 (clN F (snN I0 j))) = _; rw [eF]) c 0 N V I1 L (by omega) (by omega) hw (keep_t hk (frOd_k t1).1) (csK_c (frOd_k t1).1 hc) h5 h8 (by rw [t1.2.1 239 (by decide)]; exact h39) hL (fun x hx => absurd hx (by omega))
      have t3 := frOd_t t1 (frOd_t x3 (frOd_8 (V := W) (I := J) (L := M) (x := nI (snN I0 j + 1))))
      have sp := snN_p c0
      obtain ⟨W2, J2, M2, e2, y1, y2, y3, y4⟩ := ih (j + 1) K (vup W 174 108 (.int (nI (snN I0 j + 1)))) J M (by omega) (by omega) (t3.2.2.2 hw) (keep_t hk (frOd_k t3).1) (csK_c (frOd_k t3).1 hc) ((t3.1 174 105 (fun _ => by decide)).trans h5) (by rw [sp]; exact vup_eq) (by rw [t3.2.1 239 (by decide)]; exact h39) (fun r hr => by
          rw [x2, ei, iup_eq]
          rw [sp] at hr
          by_cases e : r = snN I0 j
          · subst e; exact upd_eq
          · rw [upd_ne e]; exact h41 r (by omega)) (by rw [sp]; exact x1)
      refine ⟨W2, J2, M2, ?_, y1, y2, y3, frOd_t t3 y4⟩
      refine ev_b (rdI hc.2.1) (ev_f (nI_ge (by omega) (by omega)) (ev_b (a := Value.ref 202) rfl (ev_b rd (ev_t c0 (ev_b (a := Value.ref 241) rfl (ev_b (rdI h8) (ev_b (rdI h8) (ev_b (a := fx V I1 L R ++ tl) (by rw [ei]; exact qs_241 (by omega)) ?_))))))))
      exact e1.trans e2
    · have sp := snN_n c0
      obtain ⟨W2, J2, M2, e2, y1, y2, y3, y4⟩ := ih (j + 1) K V I L (by omega) (by omega) hw hk hc h5 (by rw [sp]; exact h8) h39 (by rw [sp]; exact h41) (by rw [sp]; exact hL)
      refine ⟨W2, J2, M2, ?_, y1, y2, y3, y4⟩
      refine ev_b (rdI hc.2.1) (ev_f (nI_ge (by omega) (by omega)) (ev_b (a := Value.ref 202) rfl (ev_b rd (ev_f c0 ?_))))
      unfold fg_506_95
      rw [nI_1]
      exact e2
set_option maxRecDepth 100000 in
set_option maxHeartbeats 4000000 in
theorem r_506 {V : Nat → Nat → Value} {I : Nat → Nat → Int32} {L : Nat → Nat → Int64} {R : Nat → Nat → Option Nat} {tl : am_H} {V0 : Nat → Nat → Value} {I0 : Nat → Nat → Int32} {N c m n lm : Nat} {F : Nat → Int32} {Ob : Nat → Nat → Int32 × Nat × Int32} {bm : Nat → Nat} (hN : 5000 < N) (hc16 : c ≤ 16) (hn : n ≤ 600) (hlo : 10 ≤ lm) (hhi : lm ≤ 2000) (h6 : I0 206 0 = nI lm) (hB : ∀ b, b < n → bK R tl I0 b) (hO : oB I0 lm n m Ob) (hm : ∀ x, x < c → bm x < n) (hF : scK I0 m F) (hw : wt V) (hk : keep V0 V I0 I) (hc : csK V I I0 m) (h5 : V 174 105 = .int (nI c)) (h39 : ∀ x, x < c → I 239 x = nI (bm x)) : ∃ W J M, fm_506 N (.ref 174) (fx V I L R ++ tl) = some (.inl (none, fx W J M R ++ tl)) ∧ W 174 108 = .int (nI (snN I0 m)) ∧ (∀ r, r < snN I0 m → J 241 r = nI r) ∧ (∀ x, x < c → ∀ r, r < snN I0 m → M 240 (24 * x + r) = lN (enR I0 F (Ob (bm x)) r)) ∧ frOd V W I J L M := by
  have m24 := hc.2.2.1
  have t1 := frOd_8 (V := V) (I := I) (L := L) (x := 0)
  obtain ⟨W2, J2, M2, e2, y1, y2, y3, y4⟩ := r_506l (R := R) (tl := tl) (V0 := V0) hN hc16 hn hlo hhi h6 hB hO hm m24 hF m 0 N (vup V 174 108 (.int 0)) I L (by omega) (by omega) (t1.2.2.2 hw) (keep_t hk (frOd_k t1).1) (csK_c (frOd_k t1).1 hc) ((vup_nj (by decide)).trans h5) vup_eq h39 (fun r hr => absurd hr (Nat.not_lt_zero _)) (fun x _ r hr => absurd hr (Nat.not_lt_zero _))
  refine ⟨W2, J2, M2, ?_, y1, y2, y3, frOd_t t1 y4⟩
  unfold fm_506 fg_506_0
  exact ev_b qp_174_108 e2
/-! one order -/
def cnB (B : Nat → Bool) : Nat → Nat
  | 0 => 0
  | p + 1 => cnB B p + (B p).toNat
theorem cnB_m {B : Nat → Bool} : ∀ p q, p ≤ q → cnB B p ≤ cnB B q := by
  intro p q h
  induction q with
  | zero => rw [Nat.le_zero.mp h]; exact Nat.le_refl _
  | succ q ih =>
    rcases Nat.eq_or_lt_of_le h with e | e
    · rw [e]; exact Nat.le_refl _
    · have := ih (by omega)
      rw [cnB]
      omega
theorem cnB_1 {B : Nat → Bool} {c : Nat} (h : cnB B c ≤ 1) : ∀ x y, x < c → y < c → B x = true → B y = true → x = y := by
  have key : ∀ x y, x < y → y < c → B x = true → B y = true → False := fun x y h1 h2 h3 h4 => by
    have a1 := cnB_m (B := B) (x + 1) y (by omega)
    have a2 := cnB_m (B := B) (y + 1) c (by omega)
    rw [cnB, h3] at a1
    rw [cnB, h4] at a2
    have : true.toNat = 1 := rfl
    omega
  intro x y h1 h2 h3 h4
  rcases Nat.lt_trichotomy x y with e | e | e
  · exact (key x y e h2 h3 h4).elim
  · exact e
  · exact (key y x e h1 h4 h3).elim
theorem cnB_le {B : Nat → Bool} : ∀ p, cnB B p ≤ p := by
  intro p
  induction p with
  | zero => exact Nat.le_refl _
  | succ p ih =>
    rw [cnB]
    have := Bool.toNat_le (B p)
    omega
