/-! ===== the class looks which rule fits ===== -/
/-- the class's rules look at a tree P that lies in program A -/
def rcH (h : am_H) (A it : Nat) (P : xT) : Prop := P.length ≤ 60 ∧ am_vR (am_pG 1285 (.ref 118) h) = some (.ref A) ∧ am_vR (am_pG 1283 (.ref 118) h) = some (.ref 121) ∧ am_pOk 5 (.ref 118) h = true ∧ (∃ m f, P.length * 2 ≤ m ∧ m ≤ 1000 ∧ pg h A it 0 0 P.length m f ∧ ∀ k x, P[k]? = some x → f (k * 2) = nI x.1 ∧ f (k * 2 + 1) = x.2) ∧ ∃ fs g, h[121]? = some (.inr (7, fs)) ∧ fs[0]? = some (.ref 122) ∧ fs[7]? = some (.int (nI P.length)) ∧ h[122]? = some (.inl (0, 60, .inl g)) ∧ ∀ j, j < P.length → g j = nI (xE P j)
theorem rc_s {h : am_H} {A it : Nat} {P : xT} (hc : rcH h A it P) {k : Nat} (hk : k < P.length) : fm_54 (.ref A) (nI k) 0 h = some (.inl (some (.int (nI (xS P k))), h)) ∧ fm_54 (.ref A) (nI k) 1 h = some (.inl (some (.int (xV P k)), h)) := by
  obtain ⟨l60, -, -, -, ⟨m, f, m1, m2, hp, hf⟩, -⟩ := hc
  obtain ⟨f0, f1⟩ := hf k _ (xS_at hk)
  have a := c_54 (k := k) (w := 0) hp m1 m2 l60 hk (by decide)
  have b := c_54 (k := k) (w := 1) hp m1 m2 l60 hk (by decide)
  have e0 : f (k * wdN 0 + 0) = nI (xS P k) := f0
  have e1 : f (k * wdN 0 + 1) = xV P k := f1
  rw [e0] at a
  rw [e1] at b
  exact ⟨a, b⟩
theorem rc_z {h : am_H} {A it : Nat} {P : xT} (hc : rcH h A it P) {k : Nat} (hk : k ≤ 100) : ∃ v, fm_54 (.ref A) (nI k) 0 h = some (.inl (some (.int v), h)) := by
  by_cases c : k < P.length
  · exact ⟨_, (rc_s hc c).1⟩
  · obtain ⟨l60, -, -, -, ⟨m, f, m1, m2, ⟨x1, x2, x3, x4, x5, x6, p1, p2⟩, hf⟩, -⟩ := hc
    refine ⟨0, ?_⟩
    unfold fm_54 fg_54_0
    exact ev_f (nI_pos (by omega)) (ev_b (ev_gI p1 rfl rfl) (ev_t (nI_le (by omega) (by omega)) rfl))
theorem xE_end {P : xT} {k : Nat} (h : P.length ≤ k) : xE P k = k := by
  unfold xE enL
  rw [List.drop_eq_nil_of_le (by rw [sl_len]; exact h)]
  rfl
theorem rc_e {h : am_H} {A it : Nat} {P : xT} (hc : rcH h A it P) {k : Nat} (hk : k ≤ P.length) : fm_100 (.ref 121) (nI k) h = some (.inl (some (.int (nI (xE P k))), h)) := by
  obtain ⟨l60, -, -, -, -, ⟨fs, g, s1, s2, s3, s4, s5⟩⟩ := hc
  by_cases c : k < P.length
  · exact c_100 s1 s2 s3 s4 c l60 (s5 k c)
  · have e : k = P.length := by omega
    rw [xE_end (by omega), e]
    have g7 : am_vI (am_pG 1799 (.ref 121) h) = some (nI P.length) := ev_gI s1 rfl s3
    unfold fm_100 fg_100_0
    refine ev_f (nI_pos (by omega)) (ev_b g7 (ev_t (nI_le (Nat.le_refl _) (by omega)) ?_))
    unfold fg_100_21
    exact ev_b g7 rfl
theorem rc_7 {h : am_H} {A it : Nat} {P : xT} (hc : rcH h A it P) : am_pOk 7 (.ref 121) h = true ∧ am_pOk 3 (.ref A) h = true ∧ am_vI (am_pG 771 (.ref A) h) = some (nI P.length) := by
  obtain ⟨l60, -, -, -, ⟨m, f, m1, m2, ⟨x1, x2, x3, x4, x5, x6, p1, p2⟩, hf⟩, ⟨fs, g, s1, s2, s3, s4, s5⟩⟩ := hc
  exact ⟨ev_ok s1, ev_ok p1, ev_gI p1 rfl rfl⟩
theorem c_273 {h : am_H} {A it : Nat} {P : xT} (hc : rcH h A it P) {k : Nat} (hk : k ≤ 100) (h20 : ∀ j, j < P.length → xS P j ≤ 20) : fm_273 (.ref 118) (nI k) h = some (.inl (some (.int (bI (cB P k))), h)) := by
  obtain ⟨o7, o3, g3⟩ := rc_7 hc
  have r5 := hc.2.1
  unfold fm_273 fg_273_0
  by_cases c : k < P.length
  · refine ev_b r5 (ev_b g3 (ev_f (nI_ge c (by have := hc.1; omega)) (ev_b r5 (ev_i o3 (ev_cI (rc_s hc c).1 ?_)))))
    have q : nI (xS P k) = 0 ↔ xS P k = 0 := nI_eq (b := 0) (by have := h20 k c; omega) (by omega)
    by_cases d : xS P k = 0
    · rw [show cB P k = true from decide_eq_true ⟨c, d⟩]
      exact ev_f (fun e => e (q.mpr d)) rfl
    · rw [show cB P k = false from decide_eq_false (fun e => d e.2)]
      exact ev_t (fun e => d (q.mp e)) rfl
  · rw [show cB P k = false from decide_eq_false (fun e => c e.1)]
    exact ev_b r5 (ev_b g3 (ev_t (nI_le (by omega) (by omega)) rfl))
theorem c_276 {h : am_H} {A it : Nat} {P : xT} (hc : rcH h A it P) {k : Nat} {v : Int32} (hk : k ≤ 100) (h20 : ∀ j, j < P.length → xS P j ≤ 20) : fm_276 (.ref 118) (nI k) v h = some (.inl (some (.int (bI (iB P k v))), h)) := by
  obtain ⟨o7, o3, g3⟩ := rc_7 hc
  have r5 := hc.2.1
  unfold fm_276 fg_276_0
  by_cases c : k < P.length
  · refine ev_b r5 (ev_b g3 (ev_f (nI_ge c (by have := hc.1; omega)) (ev_b r5 (ev_i o3 (ev_cI (rc_s hc c).1 ?_)))))
    have q : nI (xS P k) = 0 ↔ xS P k = 0 := nI_eq (b := 0) (by have := h20 k c; omega) (by omega)
    by_cases d : xS P k = 0
    · refine ev_f (fun e => e (q.mpr d)) (ev_b r5 (ev_i o3 (ev_cI (rc_s hc c).2 ?_)))
      by_cases e : xV P k = v
      · rw [show iB P k v = true from decide_eq_true ⟨c, d, e⟩]
        exact ev_f (fun e2 => e2 e) rfl
      · rw [show iB P k v = false from decide_eq_false (fun e2 => e e2.2.2)]
        exact ev_t e rfl
    · rw [show iB P k v = false from decide_eq_false (fun e => d e.2.1)]
      exact ev_t (fun e => d (q.mp e)) rfl
  · rw [show iB P k v = false from decide_eq_false (fun e => c e.1)]
    exact ev_b r5 (ev_b g3 (ev_t (nI_le (by omega) (by omega)) rfl))
theorem c_279l {h : am_H} {A it N : Nat} {P : xT} (hc : rcH h A it P) (h20 : ∀ j, j < P.length → xS P j ≤ 20) {e : Nat} (he : e ≤ P.length) : ∀ (m i K : Nat), i + m = e → m < K → fg_279_2 N K (.ref A) (nI e) (nI i) h = some (.inl (some (.int (bI (sfR P m i))), h)) := by
  have l60 := hc.1
  obtain ⟨o7, o3, g3⟩ := rc_7 hc
  intro m
  induction m with
  | zero =>
    intro i K hi hK
    obtain ⟨K, rfl⟩ : ∃ k, K = k + 1 := ⟨K - 1, by omega⟩
    rw [fg_279_2]
    exact ev_t (nI_le (by omega) (by omega)) rfl
  | succ m ih =>
    intro i K hi hK
    obtain ⟨K, rfl⟩ : ∃ k, K = k + 1 := ⟨K - 1, by omega⟩
    have s20 := h20 i (by omega)
    have q : ∀ n, n ≤ 30 → (nI (xS P i) = nI n ↔ xS P i = n) := fun n hn => nI_eq (by omega) (by omega)
    rw [fg_279_2, sfR]
    refine ev_f (nI_ge (by omega) (by omega)) (ev_i o3 (ev_cI (rc_s hc (by omega)).1 ?_))
    by_cases d1 : xS P i = 13
    · rw [if_pos (show xS P i = 13 ∨ xS P i = 14 ∨ xS P i = 8 ∨ xS P i = 19 from .inl d1)]
      exact ev_t ((q 13 (by omega)).mpr d1) rfl
    refine ev_f (fun e => d1 ((q 13 (by omega)).mp e)) ?_
    by_cases d2 : xS P i = 14
    · rw [if_pos (show xS P i = 13 ∨ xS P i = 14 ∨ xS P i = 8 ∨ xS P i = 19 from .inr (.inl d2))]
      exact ev_t ((q 14 (by omega)).mpr d2) rfl
    refine ev_f (fun e => d2 ((q 14 (by omega)).mp e)) ?_
    by_cases d3 : xS P i = 8
    · rw [if_pos (show xS P i = 13 ∨ xS P i = 14 ∨ xS P i = 8 ∨ xS P i = 19 from .inr (.inr (.inl d3)))]
      exact ev_t ((q 8 (by omega)).mpr d3) rfl
    refine ev_f (fun e => d3 ((q 8 (by omega)).mp e)) ?_
    by_cases d4 : xS P i = 19
    · rw [if_pos (show xS P i = 13 ∨ xS P i = 14 ∨ xS P i = 8 ∨ xS P i = 19 from .inr (.inr (.inr d4)))]
      exact ev_f (fun e => e ((q 19 (by omega)).mpr d4)) rfl
    rw [if_neg (show ¬ (xS P i = 13 ∨ xS P i = 14 ∨ xS P i = 8 ∨ xS P i = 19) by omega), nI_1]
    exact ev_t (fun e => d4 ((q 19 (by omega)).mp e)) (ih (i + 1) K (by omega) (by omega))
theorem bI_fit (b : Bool) : am_rfit (some FieldType.boolean) (bI b) = true := by cases b <;> rfl
theorem c_278 {h : am_H} {A it N : Nat} {P : xT} (hN : 100 < N) (hc : rcH h A it P) (h20 : ∀ j, j < P.length → xS P j ≤ 20) {k : Nat} (hk : k < P.length) : fm_278 N (.ref 118) (nI k) h = some (.inl (some (.int (bI (sfB P k))), h)) := by
  have l60 := hc.1
  obtain ⟨o7, o3, g3⟩ := rc_7 hc
  have el := xE_le (P := P) (k := k) (by omega)
  have eg := xE_ge (P := P) (k := k)
  unfold fm_278 fg_278_0
  refine ev_b hc.2.1 (ev_b hc.2.2.1 (ev_i o7 (ev_cI (rc_e hc (by omega)) (ev_i o3 (ev_cI (v := bI (sfB P k)) (h1 := h) ?_ (ev_i (bI_fit _) rfl))))))
  unfold fm_279 fg_279_0
  exact c_279l hc h20 el (xE P k - k) k N (by omega) (by omega)
theorem c_280l {h : am_H} {A it N : Nat} {P : xT} (hc : rcH h A it P) (h20 : ∀ j, j < P.length → xS P j ≤ 20) {a b n : Nat} (ha : a + n ≤ P.length) (hb : b + n ≤ P.length) : ∀ (m i K : Nat), i + m = n → m < K → fg_280_30 N K (.ref 118) (nI a) (nI b) (nI n) (nI i) h = some (.inl (some (.int (bI (lkR P a b m i))), h)) := by
  have l60 := hc.1
  obtain ⟨o7, o3, g3⟩ := rc_7 hc
  have r5 := hc.2.1
  intro m
  induction m with
  | zero =>
    intro i K hi hK
    obtain ⟨K, rfl⟩ : ∃ k, K = k + 1 := ⟨K - 1, by omega⟩
    rw [fg_280_30]
    exact ev_t (nI_le (by omega) (by omega)) rfl
  | succ m ih =>
    intro i K hi hK
    obtain ⟨K, rfl⟩ : ∃ k, K = k + 1 := ⟨K - 1, by omega⟩
    obtain ⟨sa, va⟩ := rc_s hc (show a + i < P.length by omega)
    obtain ⟨sb, vb⟩ := rc_s hc (show b + i < P.length by omega)
    have q : nI (xS P (a + i)) = nI (xS P (b + i)) ↔ xS P (a + i) = xS P (b + i) := nI_eq (by have := h20 (a + i) (by omega); omega) (by have := h20 (b + i) (by omega); omega)
    rw [fg_280_30, lkR]
    dsimp only
    rw [nI_add, nI_add]
    refine ev_f (nI_ge (by omega) (by omega)) (ev_b r5 (ev_i o3 (ev_cI sa (ev_b r5 (ev_i o3 (ev_cI sb ?_))))))
    by_cases d1 : xS P (a + i) = xS P (b + i)
    · refine ev_f (fun e => e (q.mpr d1)) (ev_b r5 (ev_i o3 (ev_cI va (ev_b r5 (ev_i o3 (ev_cI vb ?_))))))
      by_cases d2 : xV P (a + i) = xV P (b + i)
      · rw [if_pos (show xS P (a + i) = xS P (b + i) ∧ xV P (a + i) = xV P (b + i) from ⟨d1, d2⟩), nI_1]
        exact ev_t d2 (ih (i + 1) K (by omega) (by omega))
      · rw [if_neg (show ¬ (xS P (a + i) = xS P (b + i) ∧ xV P (a + i) = xV P (b + i)) from fun e => d2 e.2)]
        exact ev_f d2 rfl
    · rw [if_neg (show ¬ (xS P (a + i) = xS P (b + i) ∧ xV P (a + i) = xV P (b + i)) from fun e => d1 e.1)]
      exact ev_t (fun e => d1 (q.mp e)) rfl
theorem c_280 {h : am_H} {A it N : Nat} {P : xT} (hN : 100 < N) (hc : rcH h A it P) (h20 : ∀ j, j < P.length → xS P j ≤ 20) {a b : Nat} (ha : a < P.length) (hb : b < P.length) : fm_280 N (.ref 118) (nI a) (nI b) h = some (.inl (some (.int (bI (lkB P a b))), h)) := by
  have l60 := hc.1
  obtain ⟨o7, o3, g3⟩ := rc_7 hc
  have e1 := xE_le (P := P) (k := a) (by omega)
  have e2 := xE_ge (P := P) (k := a)
  have e3 := xE_le (P := P) (k := b) (by omega)
  have e4 := xE_ge (P := P) (k := b)
  unfold fm_280 fg_280_0 lkB
  refine ev_b hc.2.2.1 (ev_i o7 (ev_cI (rc_e hc (by omega)) (ev_b hc.2.2.1 (ev_i o7 (ev_cI (rc_e hc (by omega)) ?_)))))
  rw [nI_sub e2, nI_sub e4]
  have q : nI (xE P a - a) = nI (xE P b - b) ↔ xE P a - a = xE P b - b := nI_eq (by omega) (by omega)
  by_cases d : xE P a - a = xE P b - b
  · rw [if_pos d]
    exact ev_t (q.mpr d) (c_280l hc h20 (by omega) (by omega) (xE P a - a) 0 N (by omega) (by omega))
  · rw [if_neg d]
    exact ev_f (fun e => d (q.mp e)) rfl
/-- how the class tells what comes -/
def rcI (r : Option (Nat × Int32)) : Int32 := match r with
  | none => -1
  | some c => if c.1 = 0 then -2 else if c.1 = 1 then -3 else nI (c.1 - 2)
theorem c_274 {V : Nat → Nat → Value} {I : Nat → Nat → Int32} {L : Nat → Nat → Int64} {R : Nat → Nat → Option Nat} {tl : am_H} {v : Int32} : fm_274 (.ref 118) v (fx V I L R ++ tl) = some (.inl (some (.int (rcI (bcm v))), fx (vup V 118 6 (.int v)) I L R ++ tl)) := by
  unfold fm_274 fg_274_0 bcm
  by_cases c1 : v < -99
  · rw [if_pos c1]
    exact ev_b qp_118_6 (ev_t c1 rfl)
  · rw [if_neg c1]
    by_cases c2 : 99 < v
    · rw [if_pos c2]
      exact ev_b qp_118_6 (ev_f c1 (ev_t c2 rfl))
    · rw [if_neg c2]
      exact ev_b qp_118_6 (ev_f c1 (ev_f c2 rfl))
theorem fitD {V : Nat → Nat → Value} {I : Nat → Nat → Int32} {L : Nat → Nat → Int64} {R : Nat → Nat → Option Nat} {tl : am_H} {y0 : Int32} (hy : V 118 6 = .int y0) {r : Option (Nat × Int32)} {o : Option am_O} (h : (o = some (.inl (some (.int (rcI r)), fx V I L R ++ tl)) ∧ ∀ v, r ≠ some (0, v)) ∨ ∃ v, r = bcm v ∧ o = some (.inl (some (.int (rcI (bcm v))), fx (vup V 118 6 (.int v)) I L R ++ tl))) : ∃ y, o = some (.inl (some (.int (rcI r)), fx (vup V 118 6 (.int y)) I L R ++ tl)) ∧ ∀ v, r = some (0, v) → y = v := by
  rcases h with ⟨h1, h2⟩ | ⟨v, h1, h2⟩
  · refine ⟨y0, ?_, fun v e => absurd e (h2 v)⟩
    rw [vup_self hy]
    exact h1
  · subst h1
    exact ⟨v, h2, fun w e => by have := (bcm_s e).1; injection this with _ e2; exact e2.symm⟩
theorem n_some {q : Nat} {v : Int32} : (some (q + 2, (0 : Int32)) : Option (Nat × Int32)) ≠ some (0, v) := fun e => by
  injection e with e
  injection e with e1 e2
  exact absurd e1 (by omega)
theorem n_none {v : Int32} : (none : Option (Nat × Int32)) ≠ some (0, v) := by simp
theorem rcI_n {q : Nat} : rcI (some (q + 2, 0)) = nI q := by
  unfold rcI
  dsimp only
  rw [if_neg (by omega), if_neg (by omega), Nat.add_sub_cancel]
set_option maxRecDepth 100000 in
set_option maxHeartbeats 1600000 in
theorem c_272 {V : Nat → Nat → Value} {I : Nat → Nat → Int32} {L : Nat → Nat → Int64} {R : Nat → Nat → Option Nat} {tl : am_H} {A it s a b : Nat} {P : xT} {y0 : Int32} (hc : rcH (fx V I L R ++ tl) A it P) (h20 : ∀ j, j < P.length → xS P j ≤ 20) (hy : V 118 6 = .int y0) (hs : s ≤ 20) (ha : a ≤ 100) (hb : b ≤ 100) : ∃ y, fm_272 (.ref 118) (nI s) (nI a) (nI b) (fx V I L R ++ tl) = some (.inl (some (.int (rcI (ru0 P s a b))), fx (vup V 118 6 (.int y)) I L R ++ tl)) ∧ ∀ v, ru0 P s a b = some (0, v) → y = v := by
  obtain ⟨o7, o3, g3⟩ := rc_7 hc
  have r5 := hc.2.1
  have ok5 := hc.2.2.2.1
  have q : ∀ n, n ≤ 30 → (nI s = nI n ↔ s = n) := fun n hn => nI_eq (by omega) (by omega)
  have ea := c_273 hc ha h20
  have eb := c_273 hc hb h20
  refine fitD hy ?_
  unfold fm_272 fg_272_0 ru0
  by_cases c1 : s < 7
  · rw [if_pos c1]
    exact .inl ⟨ev_t (nI_lt (b := 7) c1 (by omega)) rfl, fun _ => n_none⟩
  rw [if_neg c1]
  cases d1 : cB P a with
  | false =>
    rw [if_pos (show false = false from rfl)]
    rw [d1] at ea
    exact .inl ⟨ev_f (nI_nlt (b := 7) (by omega) (by omega)) (ev_i ok5 (ev_cI ea (ev_f (fun e => e rfl) (rfl)))), fun _ => n_none⟩
  | true =>
  rw [if_neg (show ¬ true = false by decide)]
  rw [d1] at ea
  have al := (of_decide_eq_true d1).1
  have va := (rc_s hc al).2
  by_cases c3 : s = 7
  · rw [if_pos c3]
    refine .inr ⟨_, rfl, ev_f (nI_nlt (b := 7) (by omega) (by omega)) (ev_i ok5 (ev_cI ea (ev_t (by decide) (ev_b r5 (ev_i o3 (ev_cI va (ev_f (fun e => e ((q 7 (by omega)).mpr c3)) (ev_i ok5 (ev_cI c_274 (rfl))))))))))⟩
  rw [if_neg c3]
  by_cases c4 : s < 10
  · rw [if_pos c4]
    exact .inl ⟨ev_f (nI_nlt (b := 7) (by omega) (by omega)) (ev_i ok5 (ev_cI ea (ev_t (by decide) (ev_b r5 (ev_i o3 (ev_cI va (ev_t (fun e => c3 ((q 7 (by omega)).mp e)) (ev_t (nI_lt (b := 10) c4 (by omega)) (rfl))))))))), fun _ => n_none⟩
  rw [if_neg c4]
  by_cases c5 : 14 < s
  · rw [if_pos c5]
    exact .inl ⟨ev_f (nI_nlt (b := 7) (by omega) (by omega)) (ev_i ok5 (ev_cI ea (ev_t (by decide) (ev_b r5 (ev_i o3 (ev_cI va (ev_t (fun e => c3 ((q 7 (by omega)).mp e)) (ev_f (nI_nlt (b := 10) (by omega) (by omega)) (ev_t (nI_lt (a := 14) c5 (by omega)) (rfl)))))))))), fun _ => n_none⟩
  rw [if_neg c5]
  cases d2 : cB P b with
  | false =>
    rw [if_pos (show false = false from rfl)]
    rw [d2] at eb
    exact .inl ⟨ev_f (nI_nlt (b := 7) (by omega) (by omega)) (ev_i ok5 (ev_cI ea (ev_t (by decide) (ev_b r5 (ev_i o3 (ev_cI va (ev_t (fun e => c3 ((q 7 (by omega)).mp e)) (ev_f (nI_nlt (b := 10) (by omega) (by omega)) (ev_f (nI_nlt (a := 14) (by omega) (by omega)) (ev_i ok5 (ev_cI eb (ev_f (fun e => e rfl) (rfl))))))))))))), fun _ => n_none⟩
  | true =>
  rw [if_neg (show ¬ true = false by decide)]
  rw [d2] at eb
  have bl := (of_decide_eq_true d2).1
  have vb := (rc_s hc bl).2
  by_cases c7 : s = 10
  · rw [if_pos c7]
    subst c7
    exact .inr ⟨_, rfl, ev_f (nI_nlt (b := 7) (by omega) (by omega)) (ev_i ok5 (ev_cI ea (ev_t (by decide) (ev_b r5 (ev_i o3 (ev_cI va (ev_t (fun e => c3 ((q 7 (by omega)).mp e)) (ev_f (nI_nlt (b := 10) (by omega) (by omega)) (ev_f (nI_nlt (a := 14) (by omega) (by omega)) (ev_i ok5 (ev_cI eb (ev_t (by decide) (ev_b r5 (ev_i o3 (ev_cI vb (ev_t rfl (by unfold fg_272_92; exact ev_f (fun e => e rfl) (by unfold fg_272_126; exact ev_i ok5 (ev_cI c_274 (rfl))))))))))))))))))))⟩
  rw [if_neg c7]
  by_cases c8 : s = 11
  · rw [if_pos c8]
    subst c8
    exact .inr ⟨_, rfl, ev_f (nI_nlt (b := 7) (by omega) (by omega)) (ev_i ok5 (ev_cI ea (ev_t (by decide) (ev_b r5 (ev_i o3 (ev_cI va (ev_t (fun e => c3 ((q 7 (by omega)).mp e)) (ev_f (nI_nlt (b := 10) (by omega) (by omega)) (ev_f (nI_nlt (a := 14) (by omega) (by omega)) (ev_i ok5 (ev_cI eb (ev_t (by decide) (ev_b r5 (ev_i o3 (ev_cI vb (ev_f (by decide) (ev_t rfl (by unfold fg_272_92; exact ev_t (by decide) (ev_f (fun e => e rfl) (by unfold fg_272_126; exact ev_i ok5 (ev_cI c_274 (rfl))))))))))))))))))))))⟩
  rw [if_neg c8]
  by_cases c9 : s = 12
  · rw [if_pos c9]
    subst c9
    exact .inr ⟨_, rfl, ev_f (nI_nlt (b := 7) (by omega) (by omega)) (ev_i ok5 (ev_cI ea (ev_t (by decide) (ev_b r5 (ev_i o3 (ev_cI va (ev_t (fun e => c3 ((q 7 (by omega)).mp e)) (ev_f (nI_nlt (b := 10) (by omega) (by omega)) (ev_f (nI_nlt (a := 14) (by omega) (by omega)) (ev_i ok5 (ev_cI eb (ev_t (by decide) (ev_b r5 (ev_i o3 (ev_cI vb (ev_f (by decide) (ev_f (by decide) (ev_f (fun e => e rfl) (by unfold fg_272_92; exact ev_t (by decide) (ev_t (by decide) (by unfold fg_272_126; exact ev_i ok5 (ev_cI c_274 (rfl)))))))))))))))))))))))⟩
  rw [if_neg c9]
  by_cases d3 : xV P b = 0
  · rw [if_pos d3]
    exact .inl ⟨ev_f (nI_nlt (b := 7) (by omega) (by omega)) (ev_i ok5 (ev_cI ea (ev_t (by decide) (ev_b r5 (ev_i o3 (ev_cI va (ev_t (fun e => c3 ((q 7 (by omega)).mp e)) (ev_f (nI_nlt (b := 10) (by omega) (by omega)) (ev_f (nI_nlt (a := 14) (by omega) (by omega)) (ev_i ok5 (ev_cI eb (ev_t (by decide) (ev_b r5 (ev_i o3 (ev_cI vb (ev_f (fun e => c7 ((q 10 (by omega)).mp e)) (ev_f (fun e => c8 ((q 11 (by omega)).mp e)) (ev_t (fun e => c9 ((q 12 (by omega)).mp e)) (ev_f (fun e => e d3) (rfl)))))))))))))))))))), fun _ => n_none⟩
  rw [if_neg d3]
  by_cases d4 : s = 13
  · rw [if_pos d4]
    exact .inr ⟨_, rfl, ev_f (nI_nlt (b := 7) (by omega) (by omega)) (ev_i ok5 (ev_cI ea (ev_t (by decide) (ev_b r5 (ev_i o3 (ev_cI va (ev_t (fun e => c3 ((q 7 (by omega)).mp e)) (ev_f (nI_nlt (b := 10) (by omega) (by omega)) (ev_f (nI_nlt (a := 14) (by omega) (by omega)) (ev_i ok5 (ev_cI eb (ev_t (by decide) (ev_b r5 (ev_i o3 (ev_cI vb (ev_f (fun e => c7 ((q 10 (by omega)).mp e)) (ev_f (fun e => c8 ((q 11 (by omega)).mp e)) (ev_t (fun e => c9 ((q 12 (by omega)).mp e)) (ev_t d3 (ev_f (fun e => e ((q 13 (by omega)).mpr d4)) (ev_t d3 (by unfold fg_272_159; exact ev_i ok5 (ev_cI c_274 (rfl))))))))))))))))))))))))⟩
  rw [if_neg d4]
  exact .inr ⟨_, rfl, ev_f (nI_nlt (b := 7) (by omega) (by omega)) (ev_i ok5 (ev_cI ea (ev_t (by decide) (ev_b r5 (ev_i o3 (ev_cI va (ev_t (fun e => c3 ((q 7 (by omega)).mp e)) (ev_f (nI_nlt (b := 10) (by omega) (by omega)) (ev_f (nI_nlt (a := 14) (by omega) (by omega)) (ev_i ok5 (ev_cI eb (ev_t (by decide) (ev_b r5 (ev_i o3 (ev_cI vb (ev_f (fun e => c7 ((q 10 (by omega)).mp e)) (ev_f (fun e => c8 ((q 11 (by omega)).mp e)) (ev_t (fun e => c9 ((q 12 (by omega)).mp e)) (ev_t d3 (ev_t (fun e => d4 ((q 13 (by omega)).mp e)) (ev_t d3 (by unfold fg_272_159; exact ev_i ok5 (ev_cI c_274 (rfl))))))))))))))))))))))))⟩
set_option maxRecDepth 100000 in
set_option maxHeartbeats 1600000 in
theorem c_275 {V : Nat → Nat → Value} {I : Nat → Nat → Int32} {L : Nat → Nat → Int64} {R : Nat → Nat → Option Nat} {tl : am_H} {A it s a b : Nat} {P : xT} (hc : rcH (fx V I L R ++ tl) A it P) (h20 : ∀ j, j < P.length → xS P j ≤ 20) (hs : s ≤ 20) (ha : a ≤ 100) (hb : b ≤ 100) : fm_275 (.ref 118) (nI s) (nI a) (nI b) (fx V I L R ++ tl) = some (.inl (some (.int (rcI (ru1 P s a b))), fx V I L R ++ tl)) ∧ ∀ v, ru1 P s a b ≠ some (0, v) := by
  have ok5 := hc.2.2.2.1
  have q : ∀ n, n ≤ 30 → (nI s = nI n ↔ s = n) := fun n hn => nI_eq (by omega) (by omega)
  have core : fm_275 (.ref 118) (nI s) (nI a) (nI b) (fx V I L R ++ tl) = fg_275_17 (.ref 118) (nI s) (nI a) (nI b) (if s = 10 ∨ s = 11 then 0 else 1) (fx V I L R ++ tl) := by
    unfold fm_275 fg_275_0
    by_cases c1 : s = 10
    · rw [if_pos (show s = 10 ∨ s = 11 from .inl c1)]
      exact ev_t ((q 10 (by omega)).mpr c1) rfl
    · refine ev_f (fun e => c1 ((q 10 (by omega)).mp e)) ?_
      by_cases c2 : s = 11
      · rw [if_pos (show s = 10 ∨ s = 11 from .inr c2)]
        exact ev_f (fun e => e ((q 11 (by omega)).mpr c2)) rfl
      · rw [if_neg (show ¬ (s = 10 ∨ s = 11) by omega)]
        exact ev_t (fun e => c2 ((q 11 (by omega)).mp e)) rfl
  rw [core]
  unfold fg_275_17 ru1
  generalize (if s = 10 ∨ s = 11 then (0 : Int32) else 1) = pl
  have ea := c_276 (v := pl) hc ha h20
  have eb := c_276 (v := pl) hc hb h20
  by_cases c1 : s < 10
  · rw [if_pos c1]
    exact ⟨ev_t (nI_lt (b := 10) c1 (by omega)) rfl, fun _ => n_none⟩
  rw [if_neg c1]
  by_cases c2 : 13 < s
  · rw [if_pos c2]
    exact ⟨ev_f (nI_nlt (b := 10) (by omega) (by omega)) (ev_f (nI_ge (b := s) (a := 13) c2 (by omega)) rfl), fun _ => n_none⟩
  rw [if_neg c2]
  cases d1 : iB P b pl with
  | true =>
    rw [if_pos (show true = true from rfl), rcI_n]
    rw [d1] at eb
    exact ⟨ev_f (nI_nlt (b := 10) (by omega) (by omega)) (ev_t (nI_le (b := 13) (by omega) (by omega)) (ev_i ok5 (ev_cI eb (ev_f (by decide) rfl)))), fun _ => n_some⟩
  | false =>
  rw [if_neg (show ¬ false = true by decide)]
  rw [d1] at eb
  have fin : ∀ o, (if nI s = 10 then (fg_275_57 (.ref 118) (nI a) (nI b) pl (fx V I L R ++ tl)) else (if ¬ nI s = 12 then (fg_275_71 (fx V I L R ++ tl)) else (fg_275_57 (.ref 118) (nI a) (nI b) pl (fx V I L R ++ tl)))) = o → (if nI s < 10 then (fg_275_31 (fx V I L R ++ tl)) else (if nI s ≤ 13 then (if am_pOk 5 (.ref 118) (fx V I L R ++ tl) then am_cI true (fm_276 (.ref 118) (nI b) pl (fx V I L R ++ tl)) (fun v4 h5 => (if v4 = 0 then (if nI s = 10 then (fg_275_57 (.ref 118) (nI a) (nI b) pl h5) else (if ¬ nI s = 12 then (fg_275_71 h5) else (fg_275_57 (.ref 118) (nI a) (nI b) pl h5))) else some (.inl (some (.int (nI a)), h5)))) else none) else (fg_275_31 (fx V I L R ++ tl)))) = o := fun o h => ev_f (nI_nlt (b := 10) (by omega) (by omega)) (ev_t (nI_le (b := 13) (by omega) (by omega)) (ev_i ok5 (ev_cI eb (ev_t rfl h))))
  by_cases c3 : s = 11 ∨ s = 13
  · rw [if_pos c3]
    refine ⟨fin _ (ev_f (fun e => ?_) (ev_t (fun e => ?_) rfl)), fun _ => n_none⟩
    · have := (q 10 (by omega)).mp e; omega
    · have := (q 12 (by omega)).mp e; omega
  rw [if_neg c3]
  have f57 : fg_275_57 (.ref 118) (nI a) (nI b) pl (fx V I L R ++ tl) = some (.inl (some (.int (rcI (if iB P a pl = true then some (b + 2, 0) else none))), fx V I L R ++ tl)) := by
    unfold fg_275_57
    cases d2 : iB P a pl with
    | true =>
      rw [d2] at ea
      rw [if_pos (show true = true from rfl), rcI_n]
      exact ev_i ok5 (ev_cI ea (ev_f (by decide) rfl))
    | false =>
      rw [d2] at ea
      rw [if_neg (show ¬ false = true by decide)]
      exact ev_i ok5 (ev_cI ea (ev_t rfl rfl))
  refine ⟨fin _ ?_, fun v => ?_⟩
  · by_cases c4 : s = 10
    · exact ev_t ((q 10 (by omega)).mpr c4) f57
    · exact ev_f (fun e => c4 ((q 10 (by omega)).mp e)) (ev_f (fun e => e ((q 12 (by omega)).mpr (by omega))) f57)
  · split
    · exact n_some
    · exact n_none
