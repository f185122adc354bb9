/-! ===== pedigrees ===== -/
def enc (A B : Nat → Bool) (j : Nat) : Int32 := nI ((A j).toNat + 2 * (B j).toNat)
theorem enc_o1 (A B : Nat → Bool) (j : Nat) : enc A B j ||| 1 = nI (1 + 2 * (B j).toNat) := by
  unfold enc
  cases A j <;> cases B j <;> decide
theorem enc_o2 (A B : Nat → Bool) (j : Nat) : enc A B j ||| 2 = nI ((A j).toNat + 2) := by
  unfold enc
  cases A j <;> cases B j <;> decide
theorem enc_a1 (A B : Nat → Bool) (j : Nat) : (enc A B j &&& 1 = 0) ↔ A j = false := by
  unfold enc
  cases A j <;> cases B j <;> decide
theorem enc_a2 (A B : Nat → Bool) (j : Nat) : (enc A B j &&& 2 = 0) ↔ B j = false := by
  unfold enc
  cases A j <;> cases B j <;> decide
theorem enc_3 (A B : Nat → Bool) (j : Nat) : (enc A B j = 3) ↔ (A j = true ∧ B j = true) := by
  unfold enc
  cases A j <;> cases B j <;> decide
/-- one more is marked -/
def adB (A : Nat → Bool) (p : Nat) : Nat → Bool := fun j => if j = p then true else A j
def adO (A : Nat → Bool) (x : Int32) : Nat → Bool := if x = -1 then A else adB A x.toNatClampNeg
def mkS (fa fb : Nat → Int32) (A : Nat → Bool) (k : Nat) : Nat → Bool := if A k = true then adO (adO A (fa k)) (fb k) else A
def mkR (fa fb : Nat → Int32) : Nat → (Nat → Bool) → (Nat → Bool)
  | 0, A => A
  | k + 1, A => mkR fa fb k (mkS fa fb A k)
/-- a parent -/
def par (x : Int32) (k : Nat) : Prop := x = -1 ∨ ∃ p, p < k ∧ x = nI p
theorem adO_1 {A : Nat → Bool} : adO A (-1) = A := if_pos rfl
theorem nI_nm1 {p : Nat} (h : p < 2 ^ 31) : ¬ nI p = -1 := fun e => by
  have := nI_pos (n := p) h
  rw [e] at this
  exact this (by decide)
theorem adO_p {A : Nat → Bool} {p : Nat} (h : p < 2 ^ 31) : adO A (nI p) = adB A p := by
  unfold adO
  rw [if_neg (nI_nm1 h), nI_clamp h]
theorem adO_t {A : Nat → Bool} {x : Int32} {k j : Nat} (hk : k < 2 ^ 31) (hp : par x k) (h : adO A x j = true) : A j = true ∨ j < k := by
  rcases hp with e | ⟨p, p1, e⟩
  · rw [e, adO_1] at h; exact .inl h
  · rw [e, adO_p (by omega)] at h
    unfold adB at h
    by_cases c : j = p
    · exact .inr (by omega)
    · rw [if_neg c] at h; exact .inl h
theorem adO_m {A : Nat → Bool} {x : Int32} {j : Nat} (h : A j = true) : adO A x j = true := by
  unfold adO
  by_cases c : x = -1
  · rw [if_pos c]; exact h
  · rw [if_neg c]
    unfold adB
    by_cases d : j = x.toNatClampNeg
    · rw [if_pos d]
    · rw [if_neg d]; exact h
theorem mkR_m {fa fb : Nat → Int32} {j : Nat} : ∀ (k : Nat) (A : Nat → Bool), A j = true → mkR fa fb k A j = true := by
  intro k
  induction k with
  | zero => intro A h; exact h
  | succ k ih =>
    intro A h
    refine ih _ ?_
    unfold mkS
    by_cases c : A k = true
    · rw [if_pos c]; exact adO_m (adO_m h)
    · rw [if_neg c]; exact h
theorem mkR_t {fa fb : Nat → Int32} {b : Nat} : ∀ (k : Nat) (A : Nat → Bool), k ≤ b + 1 → k < 2 ^ 31 → (∀ i, i < k → par (fa i) i ∧ par (fb i) i) → (∀ j, A j = true → j ≤ b) → ∀ j, mkR fa fb k A j = true → j ≤ b := by
  intro k
  induction k with
  | zero => intro A _ _ _ h j hj; exact h j hj
  | succ k ih =>
    intro A hk h31 hp h
    refine ih _ (by omega) (by omega) (fun i hi => hp i (by omega)) (fun j hj => ?_)
    unfold mkS at hj
    by_cases c : A k = true
    · rw [if_pos c] at hj
      obtain ⟨p1, p2⟩ := hp k (by omega)
      rcases adO_t (by omega) p2 hj with e | e
      · rcases adO_t (by omega) p1 e with e | e
        · exact h j e
        · omega
      · omega
    · rw [if_neg c] at hj; exact h j hj
/-- what both sides know of the births' parents -/
def pdK (R : Nat → Nat → Option Nat) (tl : am_H) (fa fb : Nat → Int32) (n : Nat) : Prop := ∀ k, k < n → (∃ a, R 1 k = some (269 + a) ∧ (∀ (V : Nat → Nat → Value) (J : Nat → Nat → Int32) (M : Nat → Nat → Int64), am_vI (am_pG 774 (.ref (269 + a)) (fx V J M R ++ tl)) = some (fa k) ∧ am_vI (am_pG 775 (.ref (269 + a)) (fx V J M R ++ tl)) = some (fb k))) ∧ par (fa k) k ∧ par (fb k) k
theorem pd_r {V : Nat → Nat → Value} {I : Nat → Nat → Int32} {L : Nat → Nat → Int64} {R : Nat → Nat → Option Nat} {tl : am_H} {n p : Nat} (hr : rel V I L R tl n p) : pdK R tl (I 179) (I 180) n := fun k hk => by
  obtain ⟨kd0, ln0, sz0, a0, it0, f0, t1, t2, t3, t4, t5, -, -, -, t9⟩ := hr.2.1 k hk
  obtain ⟨w0, -, -, h1, h2, -⟩ := t9
  exact ⟨⟨a0, t4, fun V J M => ⟨ev_gI (tl_at.trans t5) rfl rfl, ev_gI (tl_at.trans t5) rfl rfl⟩⟩, h1, h2⟩
set_option maxRecDepth 100000 in
set_option maxHeartbeats 1600000 in
theorem c_253n {V : Nat → Nat → Value} {I : Nat → Nat → Int32} {L : Nat → Nat → Int64} {R : Nat → Nat → Option Nat} {tl : am_H} {bit : Int32} : fm_253 (.ref 0) (-1) bit (fx V I L R ++ tl) = some (.inl (none, (fx V I L R ++ tl))) := by
  unfold fm_253 fg_253_0
  exact ev_t (by decide) rfl
set_option maxRecDepth 100000 in
set_option maxHeartbeats 1600000 in
theorem c_253 {V : Nat → Nat → Value} {I : Nat → Nat → Int32} {L : Nat → Nat → Int64} {R : Nat → Nat → Option Nat} {tl : am_H} {p : Nat} {bit : Int32} (hp : p < 600) : fm_253 (.ref 0) (nI p) bit (fx V I L R ++ tl) = some (.inl (none, fx V (iup I 171 (upd (I 171) p (I 171 p ||| bit))) L R ++ tl)) := by
  unfold fm_253 fg_253_0
  exact ev_f (nI_pos (by omega)) (ev_b (a := Value.ref 171) rfl (ev_b (a := nI 600) rfl (ev_f (nI_ge (by omega) (by omega)) (ev_b (a := Value.ref 171) rfl (ev_b (qa_171 hp) (ev_b (qs_171 hp) rfl))))))
set_option maxRecDepth 100000 in
set_option maxHeartbeats 1600000 in
theorem c_253_1 {V : Nat → Nat → Value} {I : Nat → Nat → Int32} {L : Nat → Nat → Int64} {R : Nat → Nat → Option Nat} {tl : am_H} {x : Int32} {k : Nat} {A B : Nat → Bool} (hx : par x k) (hk : k ≤ 600) (hF : ∀ j, j < 600 → I 171 j = enc A B j) : ∃ F, fm_253 (.ref 0) x 1 (fx V I L R ++ tl) = some (.inl (none, fx V (iup I 171 F) L R ++ tl)) ∧ ∀ j, j < 600 → F j = enc (adO A x) B j := by
  rcases hx with rfl | ⟨p, hp, rfl⟩
  · refine ⟨I 171, ?_, fun j hj => ?_⟩
    · rw [iup_self]
      exact c_253n
    · rw [adO_1]; exact hF j hj
  · refine ⟨_, c_253 (by omega), fun j hj => ?_⟩
    rw [adO_p (by omega)]
    by_cases c : j = p
    · subst c
      rw [upd_eq, hF j hj, enc_o1]
      unfold enc adB
      rw [if_pos rfl]
      rfl
    · rw [upd_ne c, hF j hj]
      unfold enc adB
      rw [if_neg c]
set_option maxRecDepth 100000 in
set_option maxHeartbeats 1600000 in
theorem c_252_1 {L : Nat → Nat → Int64} {R : Nat → Nat → Option Nat} {tl : am_H} {V : Nat → Nat → Value} {fa fb : Nat → Int32} {N n : Nat} {B : Nat → Bool} (b2 : V 0 1 = .int (nI n)) (b1 : n ≤ 600) (hP : pdK R tl fa fb n) : ∀ (k K : Nat) (A : Nat → Bool) (I : Nat → Nat → Int32), k ≤ n → k < K → (∀ j, j < 600 → I 171 j = enc A B j) → ∃ F, fg_252_8 N K (.ref 0) 1 (nI k + (-1)) (fx V I L R ++ tl) = some (.inl (none, fx V (iup I 171 F) L R ++ tl)) ∧ ∀ j, j < 600 → F j = enc (mkR fa fb k A) B j := by
  intro k
  induction k with
  | zero =>
    intro K A I hk hK hF
    obtain ⟨K, rfl⟩ : ∃ k, K = k + 1 := ⟨K - 1, by omega⟩
    refine ⟨I 171, ?_, hF⟩
    rw [fg_252_8, iup_self]
    exact ev_t (by decide) rfl
  | succ k ih =>
    intro K A I hk hK hF
    obtain ⟨K, rfl⟩ : ∃ k, K = k + 1 := ⟨K - 1, by omega⟩
    rw [nI_m1, fg_252_8]
    obtain ⟨⟨a, r1, r2⟩, p1, p2⟩ := hP k (by omega)
    have ea := enc_a1 A B k
    by_cases c : A k = true
    · obtain ⟨F1, e1, g1⟩ := c_253_1 (V := V) (I := I) (L := L) (R := R) (tl := tl) p1 (by omega) hF
      obtain ⟨F2, e2, g2⟩ := c_253_1 (V := V) (I := iup I 171 F1) (L := L) (R := R) (tl := tl) p2 (show k ≤ 600 by omega) (fun j hj => g1 j hj)
      rw [iup_iup] at e2
      obtain ⟨F3, e3, g3⟩ := ih K (adO (adO A (fa k)) (fb k)) (iup I 171 F2) (by omega) (by omega) (fun j hj => g2 j hj)
      rw [iup_iup] at e3
      have es : mkS fa fb A k = adO (adO A (fa k)) (fb k) := if_pos c
      refine ⟨F3, ?_, by rw [mkR, es]; exact g3⟩
      refine ev_f (nI_pos (by omega)) (ev_b (a := Value.ref 171) rfl (ev_b (a := enc A B k) ((qa_171 (by omega)).trans (by rw [hF k (by omega)])) (ev_f (fun e => by rw [ea.mp e] at c; cases c) (ev_i rfl (ev_cR (c_63 b2 b1 (by omega) r1) rfl (ev_b (r2 _ _ _).1 (ev_i rfl (ev_cV e1 (ev_b (r2 _ _ _).2 (ev_i rfl (ev_cV e2 ?_)))))))))))
      unfold fg_252_50
      exact e3
    · have c' : A k = false := by
        cases h : A k with
        | true => exact absurd h c
        | false => rfl
      obtain ⟨F3, e3, g3⟩ := ih K A I (by omega) (by omega) hF
      have es : mkS fa fb A k = A := if_neg c
      refine ⟨F3, ?_, by rw [mkR, es]; exact g3⟩
      refine ev_f (nI_pos (by omega)) (ev_b (a := Value.ref 171) rfl (ev_b (a := enc A B k) ((qa_171 (by omega)).trans (by rw [hF k (by omega)])) (ev_t (ea.mpr c') ?_)))
      unfold fg_252_50
      exact e3
set_option maxRecDepth 100000 in
set_option maxHeartbeats 1600000 in
theorem c_252m_1 {V : Nat → Nat → Value} {I : Nat → Nat → Int32} {L : Nat → Nat → Int64} {R : Nat → Nat → Option Nat} {tl : am_H} {fa fb : Nat → Int32} {N n b : Nat} {A B : Nat → Bool} (hN : 1000 < N) (b2 : V 0 1 = .int (nI n)) (b1 : n ≤ 600) (hb : b < n) (hP : pdK R tl fa fb n) (hF : ∀ j, j < 600 → I 171 j = enc A B j) : ∃ F, fm_252 N (.ref 0) (nI b) 1 (fx V I L R ++ tl) = some (.inl (none, fx V (iup I 171 F) L R ++ tl)) ∧ ∀ j, j < 600 → F j = enc (mkR fa fb (b + 1) (adB A b)) B j := by
  obtain ⟨F1, e1, g1⟩ := c_253_1 (V := V) (I := I) (L := L) (R := R) (tl := tl) (x := nI b) (k := b + 1) (.inr ⟨b, by omega, rfl⟩) (by omega) hF
  rw [adO_p (by omega)] at g1
  obtain ⟨F2, e2, g2⟩ := c_252_1 (V := V) (L := L) (R := R) (tl := tl) (N := N) b2 b1 hP (b + 1) N (adB A b) (iup I 171 F1) (by omega) (by omega) (fun j hj => g1 j hj)
  rw [iup_iup, nI_m1] at e2
  refine ⟨F2, ?_, g2⟩
  unfold fm_252 fg_252_0
  exact ev_i rfl (ev_cV e1 e2)
set_option maxRecDepth 100000 in
set_option maxHeartbeats 1600000 in
theorem c_253_2 {V : Nat → Nat → Value} {I : Nat → Nat → Int32} {L : Nat → Nat → Int64} {R : Nat → Nat → Option Nat} {tl : am_H} {x : Int32} {k : Nat} {A B : Nat → Bool} (hx : par x k) (hk : k ≤ 600) (hF : ∀ j, j < 600 → I 171 j = enc A B j) : ∃ F, fm_253 (.ref 0) x 2 (fx V I L R ++ tl) = some (.inl (none, fx V (iup I 171 F) L R ++ tl)) ∧ ∀ j, j < 600 → F j = enc A (adO B x) j := by
  rcases hx with rfl | ⟨p, hp, rfl⟩
  · refine ⟨I 171, ?_, fun j hj => ?_⟩
    · rw [iup_self]
      exact c_253n
    · rw [adO_1]; exact hF j hj
  · refine ⟨_, c_253 (by omega), fun j hj => ?_⟩
    rw [adO_p (by omega)]
    by_cases c : j = p
    · subst c
      rw [upd_eq, hF j hj, enc_o2]
      unfold enc adB
      rw [if_pos rfl]
      rfl
    · rw [upd_ne c, hF j hj]
      unfold enc adB
      rw [if_neg c]
set_option maxRecDepth 100000 in
set_option maxHeartbeats 1600000 in
theorem c_252_2 {L : Nat → Nat → Int64} {R : Nat → Nat → Option Nat} {tl : am_H} {V : Nat → Nat → Value} {fa fb : Nat → Int32} {N n : Nat} {A : Nat → Bool} (b2 : V 0 1 = .int (nI n)) (b1 : n ≤ 600) (hP : pdK R tl fa fb n) : ∀ (k K : Nat) (B : Nat → Bool) (I : Nat → Nat → Int32), k ≤ n → k < K → (∀ j, j < 600 → I 171 j = enc A B j) → ∃ F, fg_252_8 N K (.ref 0) 2 (nI k + (-1)) (fx V I L R ++ tl) = some (.inl (none, fx V (iup I 171 F) L R ++ tl)) ∧ ∀ j, j < 600 → F j = enc A (mkR fa fb k B) j := by
  intro k
  induction k with
  | zero =>
    intro K B I hk hK hF
    obtain ⟨K, rfl⟩ : ∃ k, K = k + 1 := ⟨K - 1, by omega⟩
    refine ⟨I 171, ?_, hF⟩
    rw [fg_252_8, iup_self]
    exact ev_t (by decide) rfl
  | succ k ih =>
    intro K B I hk hK hF
    obtain ⟨K, rfl⟩ : ∃ k, K = k + 1 := ⟨K - 1, by omega⟩
    rw [nI_m1, fg_252_8]
    obtain ⟨⟨a, r1, r2⟩, p1, p2⟩ := hP k (by omega)
    have ea := enc_a2 A B k
    by_cases c : B k = true
    · obtain ⟨F1, e1, g1⟩ := c_253_2 (V := V) (I := I) (L := L) (R := R) (tl := tl) p1 (by omega) hF
      obtain ⟨F2, e2, g2⟩ := c_253_2 (V := V) (I := iup I 171 F1) (L := L) (R := R) (tl := tl) p2 (show k ≤ 600 by omega) (fun j hj => g1 j hj)
      rw [iup_iup] at e2
      obtain ⟨F3, e3, g3⟩ := ih K (adO (adO B (fa k)) (fb k)) (iup I 171 F2) (by omega) (by omega) (fun j hj => g2 j hj)
      rw [iup_iup] at e3
      have es : mkS fa fb B k = adO (adO B (fa k)) (fb k) := if_pos c
      refine ⟨F3, ?_, by rw [mkR, es]; exact g3⟩
      refine ev_f (nI_pos (by omega)) (ev_b (a := Value.ref 171) rfl (ev_b (a := enc A B k) ((qa_171 (by omega)).trans (by rw [hF k (by omega)])) (ev_f (fun e => by rw [ea.mp e] at c; cases c) (ev_i rfl (ev_cR (c_63 b2 b1 (by omega) r1) rfl (ev_b (r2 _ _ _).1 (ev_i rfl (ev_cV e1 (ev_b (r2 _ _ _).2 (ev_i rfl (ev_cV e2 ?_)))))))))))
      unfold fg_252_50
      exact e3
    · have c' : B k = false := by
        cases h : B k with
        | true => exact absurd h c
        | false => rfl
      obtain ⟨F3, e3, g3⟩ := ih K B I (by omega) (by omega) hF
      have es : mkS fa fb B k = B := if_neg c
      refine ⟨F3, ?_, by rw [mkR, es]; exact g3⟩
      refine ev_f (nI_pos (by omega)) (ev_b (a := Value.ref 171) rfl (ev_b (a := enc A B k) ((qa_171 (by omega)).trans (by rw [hF k (by omega)])) (ev_t (ea.mpr c') ?_)))
      unfold fg_252_50
      exact e3
set_option maxRecDepth 100000 in
set_option maxHeartbeats 1600000 in
theorem c_252m_2 {V : Nat → Nat → Value} {I : Nat → Nat → Int32} {L : Nat → Nat → Int64} {R : Nat → Nat → Option Nat} {tl : am_H} {fa fb : Nat → Int32} {N n b : Nat} {A B : Nat → Bool} (hN : 1000 < N) (b2 : V 0 1 = .int (nI n)) (b1 : n ≤ 600) (hb : b < n) (hP : pdK R tl fa fb n) (hF : ∀ j, j < 600 → I 171 j = enc A B j) : ∃ F, fm_252 N (.ref 0) (nI b) 2 (fx V I L R ++ tl) = some (.inl (none, fx V (iup I 171 F) L R ++ tl)) ∧ ∀ j, j < 600 → F j = enc A (mkR fa fb (b + 1) (adB B b)) j := by
  obtain ⟨F1, e1, g1⟩ := c_253_2 (V := V) (I := I) (L := L) (R := R) (tl := tl) (x := nI b) (k := b + 1) (.inr ⟨b, by omega, rfl⟩) (by omega) hF
  rw [adO_p (by omega)] at g1
  obtain ⟨F2, e2, g2⟩ := c_252_2 (V := V) (L := L) (R := R) (tl := tl) (N := N) b2 b1 hP (b + 1) N (adB B b) (iup I 171 F1) (by omega) (by omega) (fun j hj => g1 j hj)
  rw [iup_iup, nI_m1] at e2
  refine ⟨F2, ?_, g2⟩
  unfold fm_252 fg_252_0
  exact ev_i rfl (ev_cV e1 e2)
set_option maxRecDepth 100000 in
set_option maxHeartbeats 1600000 in
theorem r_529_0 {V : Nat → Nat → Value} {I : Nat → Nat → Int32} {L : Nat → Nat → Int64} {R : Nat → Nat → Option Nat} {tl : am_H} {x : Int32} {k n : Nat} {A : Nat → Bool} (hx : par x k) (hk : k ≤ n) (hn : n ≤ 600) (hF : ∀ j, j < n → I 246 j = nI (A j).toNat) : ∃ F, fm_529 (.ref 174) x 0 (fx V I L R ++ tl) = some (.inl (none, fx V (iup I 246 F) L R ++ tl)) ∧ ∀ j, j < n → F j = nI (adO A x j).toNat := by
  rcases hx with rfl | ⟨p, hp, rfl⟩
  · refine ⟨I 246, ?_, fun j hj => ?_⟩
    · rw [iup_self]
      unfold fm_529 fg_529_0
      exact ev_f (by decide) rfl
    · rw [adO_1]; exact hF j hj
  · refine ⟨upd (I 246) p 1, ?_, fun j hj => ?_⟩
    · unfold fm_529 fg_529_0
      exact ev_t (nI_pos' (by omega)) (ev_t rfl (ev_b (a := Value.ref 246) rfl (ev_b (qs_246 (by omega) rfl) rfl)))
    rw [adO_p (by omega)]
    by_cases c : j = p
    · subst c
      rw [upd_eq]
      unfold adB
      rw [if_pos rfl]
      rfl
    · rw [upd_ne c, hF j hj]
      unfold adB
      rw [if_neg c]
set_option maxRecDepth 100000 in
set_option maxHeartbeats 1600000 in
theorem r_528l_0 {L : Nat → Nat → Int64} {R : Nat → Nat → Option Nat} {tl : am_H} {V : Nat → Nat → Value} {fa fb : Nat → Int32} {N n : Nat} (b1 : n ≤ 600) (hP : ∀ k, k < n → par (fa k) k ∧ par (fb k) k) : ∀ (k K : Nat) (A : Nat → Bool) (I : Nat → Nat → Int32), k ≤ n → k < K → I 179 = fa → I 180 = fb → (∀ j, j < n → I 246 j = nI (A j).toNat) → ∃ F, fg_528_57 N K (.ref 174) 0 (nI k + (-1)) (fx V I L R ++ tl) = some (.inl (none, fx V (iup I 246 F) L R ++ tl)) ∧ ∀ j, j < n → F j = nI (mkR fa fb k A j).toNat := by
  intro k
  induction k with
  | zero =>
    intro K A I hk hK i1 i2 hF
    obtain ⟨K, rfl⟩ : ∃ k, K = k + 1 := ⟨K - 1, by omega⟩
    refine ⟨I 246, ?_, hF⟩
    rw [fg_528_57, iup_self]
    exact ev_t (by decide) rfl
  | succ k ih =>
    intro K A I hk hK i1 i2 hF
    obtain ⟨K, rfl⟩ : ∃ k, K = k + 1 := ⟨K - 1, by omega⟩
    rw [nI_m1, fg_528_57]
    obtain ⟨p1, p2⟩ := hP k (by omega)
    by_cases c : A k = true
    · obtain ⟨F1, e1, g1⟩ := r_529_0 (V := V) (I := I) (L := L) (R := R) (tl := tl) p1 (show k ≤ n by omega) b1 hF
      obtain ⟨F2, e2, g2⟩ := r_529_0 (V := V) (I := iup I 246 F1) (L := L) (R := R) (tl := tl) p2 (show k ≤ n by omega) b1 (fun j hj => g1 j hj)
      rw [iup_iup] at e2
      obtain ⟨F3, e3, g3⟩ := ih K (adO (adO A (fa k)) (fb k)) (iup I 246 F2) (by omega) (by omega) ((iup_na (by decide)).trans i1) ((iup_na (by decide)).trans i2) (fun j hj => g2 j hj)
      rw [iup_iup] at e3
      have es : mkS fa fb A k = adO (adO A (fa k)) (fb k) := if_pos c
      refine ⟨F3, ?_, by rw [mkR, es]; exact g3⟩
      refine ev_f (nI_pos (by omega)) (ev_t rfl (ev_b (a := Value.ref 246) rfl (ev_b (a := 1) ((qa_246 (by omega)).trans (by rw [hF k (by omega), c]; rfl)) (ev_t (by decide) ?_))))
      unfold fg_528_89
      refine ev_b (a := Value.ref 179) rfl (ev_b (a := fa k) ((qa_179 (by omega)).trans (by rw [i1])) (ev_i rfl (ev_cV e1 (ev_b (a := Value.ref 180) rfl (ev_b (a := fb k) ((qa_180 (by omega)).trans (by rw [iup_na (by decide), i2])) (ev_i rfl (ev_cV e2 ?_)))))))
      unfold fg_528_111
      exact e3
    · have c' : A k = false := by
        cases h : A k with
        | true => exact absurd h c
        | false => rfl
      obtain ⟨F3, e3, g3⟩ := ih K A I (by omega) (by omega) i1 i2 hF
      have es : mkS fa fb A k = A := if_neg c
      refine ⟨F3, ?_, by rw [mkR, es]; exact g3⟩
      refine ev_f (nI_pos (by omega)) (ev_t rfl (ev_b (a := Value.ref 246) rfl (ev_b (a := 0) ((qa_246 (by omega)).trans (by rw [hF k (by omega), c']; rfl)) (ev_f (fun e => e rfl) ?_))))
      unfold fg_528_111
      exact e3
set_option maxRecDepth 100000 in
set_option maxHeartbeats 1600000 in
theorem r_528i_0 {L : Nat → Nat → Int64} {R : Nat → Nat → Option Nat} {tl : am_H} {V : Nat → Nat → Value} {N n b : Nat} (b3 : V 174 1 = .int (nI n)) (b1 : n ≤ 600) (hb : b < n) : ∀ (m k K : Nat) (I : Nat → Nat → Int32), k + m = n → m < K → (∀ j, j < k → I 246 j = nI (adB (fun _ => false) b j).toNat) → ∃ F, fg_528_2 N K (.ref 174) (nI b) 0 (nI k) (fx V I L R ++ tl) = fg_528_57 N N (.ref 174) 0 (nI b) (fx V (iup I 246 F) L R ++ tl) ∧ ∀ j, j < n → F j = nI (adB (fun _ => false) b j).toNat := by
  intro m
  induction m with
  | zero =>
    intro k K I hk hK hF
    obtain ⟨K, rfl⟩ : ∃ k, K = k + 1 := ⟨K - 1, by omega⟩
    obtain rfl : k = n := by omega
    refine ⟨I 246, ?_, hF⟩
    rw [fg_528_2, iup_self]
    exact ev_b (rdI b3) (ev_t (nI_le (Nat.le_refl _) (by omega)) rfl)
  | succ m ih =>
    intro k K I hk hK hF
    obtain ⟨K, rfl⟩ : ∃ k, K = k + 1 := ⟨K - 1, by omega⟩
    have st : ∀ x : Int32, x = nI (adB (fun _ => false) b k).toNat → ∀ j, j < k + 1 → upd (I 246) k x j = nI (adB (fun _ => false) b j).toNat := fun x hx j hj => by
      by_cases c : j = k
      · subst c; rw [upd_eq]; exact hx
      · rw [upd_ne c]; exact hF j (by omega)
    by_cases c : k = b
    · have hx : (1 : Int32) = nI (adB (fun _ => false) b k).toNat := by
        unfold adB
        rw [if_pos c]
        rfl
      obtain ⟨F, e, g⟩ := ih (k + 1) K (iup I 246 (upd (I 246) k 1)) (by omega) (by omega) (fun j hj => st 1 hx j hj)
      rw [iup_iup] at e
      refine ⟨F, ?_, g⟩
      rw [fg_528_2]
      refine ev_b (rdI b3) (ev_f (nI_ge (by omega) (by omega)) (ev_t rfl (ev_b (a := Value.ref 246) rfl (ev_f (fun e => e (by rw [c])) ?_))))
      unfold fg_528_48
      refine ev_b (qs_246 (by omega) rfl) ?_
      unfold fg_528_49
      rw [nI_1]
      exact e
    · have hx : (0 : Int32) = nI (adB (fun _ => false) b k).toNat := by
        unfold adB
        rw [if_neg c]
        rfl
      obtain ⟨F, e, g⟩ := ih (k + 1) K (iup I 246 (upd (I 246) k 0)) (by omega) (by omega) (fun j hj => st 0 hx j hj)
      rw [iup_iup] at e
      refine ⟨F, ?_, g⟩
      rw [fg_528_2]
      refine ev_b (rdI b3) (ev_f (nI_ge (by omega) (by omega)) (ev_t rfl (ev_b (a := Value.ref 246) rfl (ev_t (fun e => c ((nI_eq (by omega) (by omega)).mp e)) ?_))))
      unfold fg_528_48
      refine ev_b (qs_246 (by omega) rfl) ?_
      unfold fg_528_49
      rw [nI_1]
      exact e
set_option maxRecDepth 100000 in
set_option maxHeartbeats 1600000 in
theorem r_528_0 {V : Nat → Nat → Value} {I : Nat → Nat → Int32} {L : Nat → Nat → Int64} {R : Nat → Nat → Option Nat} {tl : am_H} {fa fb : Nat → Int32} {N n b : Nat} (hN : 1000 < N) (b3 : V 174 1 = .int (nI n)) (b1 : n ≤ 600) (hb : b < n) (i1 : I 179 = fa) (i2 : I 180 = fb) (hP : ∀ k, k < n → par (fa k) k ∧ par (fb k) k) : ∃ F, fm_528 N (.ref 174) (nI b) 0 (fx V I L R ++ tl) = some (.inl (none, fx V (iup I 246 F) L R ++ tl)) ∧ ∀ j, j < n → F j = nI (mkR fa fb (b + 1) (adB (fun _ => false) b) j).toNat := by
  obtain ⟨F1, e1, g1⟩ := r_528i_0 (V := V) (L := L) (R := R) (tl := tl) (N := N) b3 b1 hb n 0 N I (by omega) (by omega) (fun j hj => absurd hj (by omega))
  obtain ⟨F2, e2, g2⟩ := r_528l_0 (V := V) (L := L) (R := R) (tl := tl) (N := N) b1 hP (b + 1) N (adB (fun _ => false) b) (iup I 246 F1) (by omega) (by omega) ((iup_na (by decide)).trans i1) ((iup_na (by decide)).trans i2) (fun j hj => g1 j hj)
  rw [iup_iup, nI_m1] at e2
  refine ⟨F2, ?_, g2⟩
  unfold fm_528 fg_528_0
  exact e1.trans e2
set_option maxRecDepth 100000 in
set_option maxHeartbeats 1600000 in
theorem r_529_1 {V : Nat → Nat → Value} {I : Nat → Nat → Int32} {L : Nat → Nat → Int64} {R : Nat → Nat → Option Nat} {tl : am_H} {x : Int32} {k n : Nat} {A : Nat → Bool} (hx : par x k) (hk : k ≤ n) (hn : n ≤ 600) (hF : ∀ j, j < n → I 247 j = nI (A j).toNat) : ∃ F, fm_529 (.ref 174) x 1 (fx V I L R ++ tl) = some (.inl (none, fx V (iup I 247 F) L R ++ tl)) ∧ ∀ j, j < n → F j = nI (adO A x j).toNat := by
  rcases hx with rfl | ⟨p, hp, rfl⟩
  · refine ⟨I 247, ?_, fun j hj => ?_⟩
    · rw [iup_self]
      unfold fm_529 fg_529_0
      exact ev_f (by decide) rfl
    · rw [adO_1]; exact hF j hj
  · refine ⟨upd (I 247) p 1, ?_, fun j hj => ?_⟩
    · unfold fm_529 fg_529_0
      exact ev_t (nI_pos' (by omega)) (ev_f (by decide) (ev_b (a := Value.ref 247) rfl (ev_b (qs_247 (by omega) rfl) rfl)))
    rw [adO_p (by omega)]
    by_cases c : j = p
    · subst c
      rw [upd_eq]
      unfold adB
      rw [if_pos rfl]
      rfl
    · rw [upd_ne c, hF j hj]
      unfold adB
      rw [if_neg c]
set_option maxRecDepth 100000 in
set_option maxHeartbeats 1600000 in
theorem r_528l_1 {L : Nat → Nat → Int64} {R : Nat → Nat → Option Nat} {tl : am_H} {V : Nat → Nat → Value} {fa fb : Nat → Int32} {N n : Nat} (b1 : n ≤ 600) (hP : ∀ k, k < n → par (fa k) k ∧ par (fb k) k) : ∀ (k K : Nat) (A : Nat → Bool) (I : Nat → Nat → Int32), k ≤ n → k < K → I 179 = fa → I 180 = fb → (∀ j, j < n → I 247 j = nI (A j).toNat) → ∃ F, fg_528_57 N K (.ref 174) 1 (nI k + (-1)) (fx V I L R ++ tl) = some (.inl (none, fx V (iup I 247 F) L R ++ tl)) ∧ ∀ j, j < n → F j = nI (mkR fa fb k A j).toNat := by
  intro k
  induction k with
  | zero =>
    intro K A I hk hK i1 i2 hF
    obtain ⟨K, rfl⟩ : ∃ k, K = k + 1 := ⟨K - 1, by omega⟩
    refine ⟨I 247, ?_, hF⟩
    rw [fg_528_57, iup_self]
    exact ev_t (by decide) rfl
  | succ k ih =>
    intro K A I hk hK i1 i2 hF
    obtain ⟨K, rfl⟩ : ∃ k, K = k + 1 := ⟨K - 1, by omega⟩
    rw [nI_m1, fg_528_57]
    obtain ⟨p1, p2⟩ := hP k (by omega)
    by_cases c : A k = true
    · obtain ⟨F1, e1, g1⟩ := r_529_1 (V := V) (I := I) (L := L) (R := R) (tl := tl) p1 (show k ≤ n by omega) b1 hF
      obtain ⟨F2, e2, g2⟩ := r_529_1 (V := V) (I := iup I 247 F1) (L := L) (R := R) (tl := tl) p2 (show k ≤ n by omega) b1 (fun j hj => g1 j hj)
      rw [iup_iup] at e2
      obtain ⟨F3, e3, g3⟩ := ih K (adO (adO A (fa k)) (fb k)) (iup I 247 F2) (by omega) (by omega) ((iup_na (by decide)).trans i1) ((iup_na (by decide)).trans i2) (fun j hj => g2 j hj)
      rw [iup_iup] at e3
      have es : mkS fa fb A k = adO (adO A (fa k)) (fb k) := if_pos c
      refine ⟨F3, ?_, by rw [mkR, es]; exact g3⟩
      refine ev_f (nI_pos (by omega)) (ev_f (by decide) (ev_b (a := Value.ref 247) rfl (ev_b (a := 1) ((qa_247 (by omega)).trans (by rw [hF k (by omega), c]; rfl)) (ev_f (by decide) ?_))))
      unfold fg_528_89
      refine ev_b (a := Value.ref 179) rfl (ev_b (a := fa k) ((qa_179 (by omega)).trans (by rw [i1])) (ev_i rfl (ev_cV e1 (ev_b (a := Value.ref 180) rfl (ev_b (a := fb k) ((qa_180 (by omega)).trans (by rw [iup_na (by decide), i2])) (ev_i rfl (ev_cV e2 ?_)))))))
      unfold fg_528_111
      exact e3
    · have c' : A k = false := by
        cases h : A k with
        | true => exact absurd h c
        | false => rfl
      obtain ⟨F3, e3, g3⟩ := ih K A I (by omega) (by omega) i1 i2 hF
      have es : mkS fa fb A k = A := if_neg c
      refine ⟨F3, ?_, by rw [mkR, es]; exact g3⟩
      refine ev_f (nI_pos (by omega)) (ev_f (by decide) (ev_b (a := Value.ref 247) rfl (ev_b (a := 0) ((qa_247 (by omega)).trans (by rw [hF k (by omega), c']; rfl)) (ev_t rfl ?_))))
      unfold fg_528_111
      exact e3
set_option maxRecDepth 100000 in
set_option maxHeartbeats 1600000 in
theorem r_528i_1 {L : Nat → Nat → Int64} {R : Nat → Nat → Option Nat} {tl : am_H} {V : Nat → Nat → Value} {N n b : Nat} (b3 : V 174 1 = .int (nI n)) (b1 : n ≤ 600) (hb : b < n) : ∀ (m k K : Nat) (I : Nat → Nat → Int32), k + m = n → m < K → (∀ j, j < k → I 247 j = nI (adB (fun _ => false) b j).toNat) → ∃ F, fg_528_2 N K (.ref 174) (nI b) 1 (nI k) (fx V I L R ++ tl) = fg_528_57 N N (.ref 174) 1 (nI b) (fx V (iup I 247 F) L R ++ tl) ∧ ∀ j, j < n → F j = nI (adB (fun _ => false) b j).toNat := by
  intro m
  induction m with
  | zero =>
    intro k K I hk hK hF
    obtain ⟨K, rfl⟩ : ∃ k, K = k + 1 := ⟨K - 1, by omega⟩
    obtain rfl : k = n := by omega
    refine ⟨I 247, ?_, hF⟩
    rw [fg_528_2, iup_self]
    exact ev_b (rdI b3) (ev_t (nI_le (Nat.le_refl _) (by omega)) rfl)
  | succ m ih =>
    intro k K I hk hK hF
    obtain ⟨K, rfl⟩ : ∃ k, K = k + 1 := ⟨K - 1, by omega⟩
    have st : ∀ x : Int32, x = nI (adB (fun _ => false) b k).toNat → ∀ j, j < k + 1 → upd (I 247) k x j = nI (adB (fun _ => false) b j).toNat := fun x hx j hj => by
      by_cases c : j = k
      · subst c; rw [upd_eq]; exact hx
      · rw [upd_ne c]; exact hF j (by omega)
    by_cases c : k = b
    · have hx : (1 : Int32) = nI (adB (fun _ => false) b k).toNat := by
        unfold adB
        rw [if_pos c]
        rfl
      obtain ⟨F, e, g⟩ := ih (k + 1) K (iup I 247 (upd (I 247) k 1)) (by omega) (by omega) (fun j hj => st 1 hx j hj)
      rw [iup_iup] at e
      refine ⟨F, ?_, g⟩
      rw [fg_528_2]
      refine ev_b (rdI b3) (ev_f (nI_ge (by omega) (by omega)) (ev_f (by decide) (ev_b (a := Value.ref 247) rfl (ev_f (fun e => e (by rw [c])) ?_))))
      unfold fg_528_29
      refine ev_b (qs_247 (by omega) rfl) ?_
      unfold fg_528_49
      rw [nI_1]
      exact e
    · have hx : (0 : Int32) = nI (adB (fun _ => false) b k).toNat := by
        unfold adB
        rw [if_neg c]
        rfl
      obtain ⟨F, e, g⟩ := ih (k + 1) K (iup I 247 (upd (I 247) k 0)) (by omega) (by omega) (fun j hj => st 0 hx j hj)
      rw [iup_iup] at e
      refine ⟨F, ?_, g⟩
      rw [fg_528_2]
      refine ev_b (rdI b3) (ev_f (nI_ge (by omega) (by omega)) (ev_f (by decide) (ev_b (a := Value.ref 247) rfl (ev_t (fun e => c ((nI_eq (by omega) (by omega)).mp e)) ?_))))
      unfold fg_528_29
      refine ev_b (qs_247 (by omega) rfl) ?_
      unfold fg_528_49
      rw [nI_1]
      exact e
set_option maxRecDepth 100000 in
set_option maxHeartbeats 1600000 in
theorem r_528_1 {V : Nat → Nat → Value} {I : Nat → Nat → Int32} {L : Nat → Nat → Int64} {R : Nat → Nat → Option Nat} {tl : am_H} {fa fb : Nat → Int32} {N n b : Nat} (hN : 1000 < N) (b3 : V 174 1 = .int (nI n)) (b1 : n ≤ 600) (hb : b < n) (i1 : I 179 = fa) (i2 : I 180 = fb) (hP : ∀ k, k < n → par (fa k) k ∧ par (fb k) k) : ∃ F, fm_528 N (.ref 174) (nI b) 1 (fx V I L R ++ tl) = some (.inl (none, fx V (iup I 247 F) L R ++ tl)) ∧ ∀ j, j < n → F j = nI (mkR fa fb (b + 1) (adB (fun _ => false) b) j).toNat := by
  obtain ⟨F1, e1, g1⟩ := r_528i_1 (V := V) (L := L) (R := R) (tl := tl) (N := N) b3 b1 hb n 0 N I (by omega) (by omega) (fun j hj => absurd hj (by omega))
  obtain ⟨F2, e2, g2⟩ := r_528l_1 (V := V) (L := L) (R := R) (tl := tl) (N := N) b1 hP (b + 1) N (adB (fun _ => false) b) (iup I 247 F1) (by omega) (by omega) ((iup_na (by decide)).trans i1) ((iup_na (by decide)).trans i2) (fun j hj => g1 j hj)
  rw [iup_iup, nI_m1] at e2
  refine ⟨F2, ?_, g2⟩
  unfold fm_528 fg_528_0
  exact e1.trans e2
