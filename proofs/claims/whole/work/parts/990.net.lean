/-! ===== running a net ===== -/
/-- a program, wherever it lies, that the rest of the heap doesn't touch -/
def prA (V : Nat → Nat → Value) (I : Nat → Nat → Int32) (tl : am_H) (a it kd ln sz m : Nat) (f : Nat → Int32) : Prop := ∀ (W : Nat → Nat → Value) (J : Nat → Nat → Int32) (L : Nat → Nat → Int64) (R : Nat → Nat → Option Nat), (∀ j, W a j = V a j) → J it = I it → pg (fx W J L R ++ tl) a it kd ln sz m f
theorem prA_tl {V : Nat → Nat → Value} {I : Nat → Nat → Int32} {L : Nat → Nat → Int64} {R : Nat → Nat → Option Nat} {tl : am_H} {a it kd ln sz m : Nat} {f : Nat → Int32} (h : pg (fx V I L R ++ tl) (269 + a) (269 + it) kd ln sz m f) : prA V I tl (269 + a) (269 + it) kd ln sz m f := by
  intro W J L' R' _ _
  obtain ⟨x1, x2, x3, x4, x5, x6, p1, p2⟩ := h
  rw [tl_at] at p1 p2
  exact ⟨x1, x2, x3, x4, x5, x6, tl_at.trans p1, tl_at.trans p2⟩
theorem vup_na {V : Nat → Nat → Value} {a b j k : Nat} {w : Value} (h : b ≠ a) : vup V a j w b k = V b k := if_neg h
theorem iup_na {I : Nat → Nat → Int32} {a b : Nat} {f : Nat → Int32} (h : b ≠ a) : iup I a f b = I b := if_neg h
/-- the class's runner: its fault and its steps; the reference's -/
def rsC (V : Nat → Nat → Value) (f : Int32) (u : Nat) : Nat → Nat → Value := vup (vup V 16 1 (.int f)) 16 2 (.int (nI u))
def rsR (V : Nat → Nat → Value) (f : Int32) (u : Nat) : Nat → Nat → Value := vup (vup V 174 48 (.int f)) 174 50 (.int (nI u))
set_option maxRecDepth 100000 in
set_option maxHeartbeats 4000000 in
theorem c_118 {V : Nat → Nat → Value} {I : Nat → Nat → Int32} {L : Nat → Nat → Int64} {R : Nat → Nat → Option Nat} {tl : am_H} {lm u : Nat} (hl : V 16 0 = .int (nI lm)) (hu : u < lm) (h2 : lm ≤ 2000) : fm_118 (.ref 16) (fx (rsC V 0 u) I L R ++ tl) = some (.inl (some (.int 1), fx (rsC V 0 (u + 1)) I L R ++ tl)) := by
  unfold fm_118 fg_118_0
  refine ev_b (a := nI u) rfl (ev_b (rdI hl) (ev_t (nI_lt hu (by omega)) (ev_b (a := nI u) rfl ?_)))
  rw [nI_1]
  exact ev_b (a := fx (rsC V 0 (u + 1)) I L R ++ tl) (ev_p rfl rfl rfl rfl) rfl
set_option maxRecDepth 100000 in
set_option maxHeartbeats 4000000 in
theorem c_118n {V : Nat → Nat → Value} {I : Nat → Nat → Int32} {L : Nat → Nat → Int64} {R : Nat → Nat → Option Nat} {tl : am_H} {lm u : Nat} (hl : V 16 0 = .int (nI lm)) (hu : lm ≤ u) (h2 : u ≤ 2000) : fm_118 (.ref 16) (fx (rsC V 0 u) I L R ++ tl) = some (.inl (some (.int 0), fx (rsC V 3 u) I L R ++ tl)) := by
  unfold fm_118 fg_118_0
  refine ev_b (a := nI u) rfl (ev_b (rdI hl) (ev_f (nI_nlt hu (by omega)) ?_))
  exact ev_b (a := fx (rsC V 3 u) I L R ++ tl) (ev_p rfl rfl rfl rfl) rfl
set_option maxRecDepth 100000 in
set_option maxHeartbeats 4000000 in
theorem r_407 {V : Nat → Nat → Value} {I : Nat → Nat → Int32} {L : Nat → Nat → Int64} {R : Nat → Nat → Option Nat} {tl : am_H} {lm u : Nat} (hl : I 206 0 = nI lm) (hu : u < lm) (h2 : lm ≤ 2000) : fm_407 (.ref 174) (fx (rsR V 0 u) I L R ++ tl) = some (.inl (some (.int 1), fx (rsR V 0 (u + 1)) I L R ++ tl)) := by
  unfold fm_407 fg_407_0
  refine ev_b (a := nI u) rfl (ev_b (a := Value.ref 206) rfl (ev_b (a := nI lm) ((qa_206 (k := 0) (by omega)).trans (by rw [hl])) (ev_t (fun e => absurd ((nI_eq (by omega) (by omega)).mp e) (by omega)) (ev_b (a := nI u) rfl ?_))))
  rw [nI_1]
  exact ev_b (a := fx (rsR V 0 (u + 1)) I L R ++ tl) (ev_p rfl rfl rfl rfl) rfl
set_option maxRecDepth 100000 in
set_option maxHeartbeats 4000000 in
theorem r_407n {V : Nat → Nat → Value} {I : Nat → Nat → Int32} {L : Nat → Nat → Int64} {R : Nat → Nat → Option Nat} {tl : am_H} {lm : Nat} (hl : I 206 0 = nI lm) : fm_407 (.ref 174) (fx (rsR V 0 lm) I L R ++ tl) = some (.inl (some (.int 0), fx (rsR V 3 lm) I L R ++ tl)) := by
  unfold fm_407 fg_407_0
  refine ev_b (a := nI lm) rfl (ev_b (a := Value.ref 206) rfl (ev_b (a := nI lm) ((qa_206 (k := 0) (by omega)).trans (by rw [hl])) (ev_f (fun e => e rfl) ?_)))
  exact ev_b (a := fx (rsR V 3 lm) I L R ++ tl) (ev_p rfl rfl rfl rfl) rfl
/-- a comparator -/
def nx (g : Nat → Int32) (i j : Nat) : Nat → Int32 := if g j < g i then upd (upd g i (g j)) j (g i) else g
/-- the comparators from c on, m of them: fault, steps, lines -/
def nrun (s v : Nat → Nat) (lm : Nat) : Nat → Nat → Nat → (Nat → Int32) → Int32 × Nat × (Nat → Int32)
  | 0, _, u, g => (0, u, g)
  | m + 1, c, u, g => if u < lm then nrun s v lm m (c + 1) (u + 1) (nx g (s c) (v c)) else (3, u, g)
theorem nx_c {g g' : Nat → Int32} {i j ln : Nat} (hi : i < ln) (hj : j < ln) (h : ∀ q, q < ln → g q = g' q) : ∀ q, q < ln → nx g i j q = nx g' i j q := by
  intro q hq
  unfold nx
  rw [h i hi, h j hj]
  by_cases c : g' j < g' i
  · rw [if_pos c, if_pos c]
    by_cases d : q = j
    · rw [d, upd_eq, upd_eq]
    · rw [upd_ne d, upd_ne d]
      by_cases e : q = i
      · rw [e, upd_eq, upd_eq]
      · rw [upd_ne e, upd_ne e]; exact h q hq
  · rw [if_neg c, if_neg c]; exact h q hq
theorem nrun_c {s v : Nat → Nat} {lm ln sz : Nat} (hs : ∀ c, c < sz → s c < v c ∧ v c < ln) : ∀ (m c u : Nat) (g g' : Nat → Int32), c + m = sz → (∀ q, q < ln → g q = g' q) → (nrun s v lm m c u g).1 = (nrun s v lm m c u g').1 ∧ (nrun s v lm m c u g).2.1 = (nrun s v lm m c u g').2.1 ∧ ∀ q, q < ln → (nrun s v lm m c u g).2.2 q = (nrun s v lm m c u g').2.2 q := by
  intro m
  induction m with
  | zero => intro c u g g' _ h; exact ⟨rfl, rfl, h⟩
  | succ m ih =>
    intro c u g g' hc h
    rw [nrun, nrun]
    by_cases d : u < lm
    · rw [if_pos d, if_pos d]
      obtain ⟨h1, h2⟩ := hs c (by omega)
      exact ih (c + 1) (u + 1) _ _ (by omega) (nx_c (by omega) h2 h)
    · rw [if_neg d, if_neg d]
      exact ⟨rfl, rfl, h⟩
theorem nrun_f {s v : Nat → Nat} {lm : Nat} : ∀ (m c u : Nat) (g : Nat → Int32), (nrun s v lm m c u g).1 = 0 ∨ (nrun s v lm m c u g).1 = 3 := by
  intro m
  induction m with
  | zero => intro c u g; exact .inl rfl
  | succ m ih =>
    intro c u g
    rw [nrun]
    by_cases d : u < lm
    · rw [if_pos d]; exact ih _ _ _
    · rw [if_neg d]; exact .inr rfl
set_option maxRecDepth 100000 in
set_option maxHeartbeats 4000000 in
theorem c_127 {V : Nat → Nat → Value} {I : Nat → Nat → Int32} {L : Nat → Nat → Int64} {R : Nat → Nat → Option Nat} {tl : am_H} {i j : Nat} (hij : i < j) (hj : j < 8) : fm_127 (.ref 16) (nI i) (nI j) (fx V I L R ++ tl) = some (.inl (none, fx V (iup I 26 (nx (I 26) i j)) L R ++ tl)) := by
  unfold fm_127 fg_127_0
  refine ev_f (nI_pos (by omega)) (ev_f (nI_ge hij (by omega)) (ev_b (a := Value.ref 26) rfl (ev_b (a := nI 8) rfl (ev_f (nI_ge hj (by omega)) (ev_b (a := Value.ref 26) rfl (ev_b (qa_26 (by omega)) (ev_b (a := Value.ref 26) rfl (ev_b (qa_26 hj) ?_))))))))
  unfold nx
  by_cases c : I 26 i ≤ I 26 j
  · rw [if_neg (Int32.not_lt.mpr c), iup_self]
    exact ev_t c rfl
  · rw [if_pos (Int32.not_le.mp c)]
    refine ev_f c (ev_b (a := Value.ref 26) rfl (ev_b (qa_26 (by omega)) (ev_b (a := Value.ref 26) rfl (ev_b (a := Value.ref 26) rfl (ev_b (qa_26 hj) (ev_b (qs_26 (by omega)) (ev_b (a := Value.ref 26) rfl (ev_b (qs_26 hj) ?_))))))))
    rw [iup_iup]
    rfl
set_option maxRecDepth 100000 in
set_option maxHeartbeats 4000000 in
theorem r_418 {V : Nat → Nat → Value} {I : Nat → Nat → Int32} {L : Nat → Nat → Int64} {R : Nat → Nat → Option Nat} {tl : am_H} {k i j : Nat} (hk : k < 400) (hi : I 186 k = nI i) (hv : I 187 k = nI j) (hij : i < j) (hj : j < 400) : ∃ r : Int32, fm_418 (.ref 174) (nI k) (fx V I L R ++ tl) = some (.inl (some (.int r), fx V (iup I 194 (nx (I 194) i j)) L R ++ tl)) := by
  have gi : ∀ g : Nat → Int32, am_pA 0 (.ref 186) (nI k) (fx V (iup I 194 g) L R ++ tl) = some (nI i) := fun g => (qa_186 (I := iup I 194 g) hk).trans (by rw [iup_na (by omega), hi])
  have gv : ∀ g : Nat → Int32, am_pA 0 (.ref 187) (nI k) (fx V (iup I 194 g) L R ++ tl) = some (nI j) := fun g => (qa_187 (I := iup I 194 g) hk).trans (by rw [iup_na (by omega), hv])
  have gi0 : am_pA 0 (.ref 186) (nI k) (fx V I L R ++ tl) = some (nI i) := (qa_186 hk).trans (by rw [hi])
  have gv0 : am_pA 0 (.ref 187) (nI k) (fx V I L R ++ tl) = some (nI j) := (qa_187 hk).trans (by rw [hv])
  unfold nx
  by_cases c : I 194 j < I 194 i
  · refine ⟨1, ?_⟩
    rw [if_pos c]
    unfold fm_418 fg_418_0
    refine ev_b (a := Value.ref 194) rfl (ev_b (a := Value.ref 186) rfl (ev_b gi0 (ev_b (qa_194 (by omega)) (ev_b (a := Value.ref 194) rfl (ev_b (a := Value.ref 187) rfl (ev_b gv0 (ev_b (qa_194 hj) (ev_t c ?_))))))))
    refine ev_b (a := Value.ref 194) rfl (ev_b (a := Value.ref 186) rfl (ev_b gi0 (ev_b (qs_194 (by omega)) (ev_b (a := Value.ref 194) rfl (ev_b (a := Value.ref 187) rfl (ev_b (gv _) (ev_b (qs_194 hj) ?_)))))))
    rw [iup_iup]
    rfl
  · refine ⟨0, ?_⟩
    rw [if_neg c, iup_self]
    unfold fm_418 fg_418_0
    exact ev_b (a := Value.ref 194) rfl (ev_b (a := Value.ref 186) rfl (ev_b gi0 (ev_b (qa_194 (by omega)) (ev_b (a := Value.ref 194) rfl (ev_b (a := Value.ref 187) rfl (ev_b gv0 (ev_b (qa_194 hj) (ev_f c rfl))))))))
set_option maxRecDepth 100000 in
set_option maxHeartbeats 4000000 in
theorem c_126l {V : Nat → Nat → Value} {I : Nat → Nat → Int32} {L : Nat → Nat → Int64} {R : Nat → Nat → Option Nat} {tl : am_H} {N a it ln sz m0 lm : Nat} {f : Nat → Int32} {s v : Nat → Nat} (hp : prA V I tl a it 3 ln sz m0 f) (ha : a ≠ 16) (hit : it ≠ 26) (h4 : V 16 4 = .ref a) (hl : V 16 0 = .int (nI lm)) (hlm : lm ≤ 2000) (hsz : sz ≤ 40) (hm0 : sz * wdN 3 ≤ m0) (hm1 : m0 ≤ 1000) (hs : ∀ c, c < sz → f (c * 2) = nI (s c) ∧ f (c * 2 + 1) = nI (v c) ∧ s c < v c ∧ v c < 8) : ∀ (m c K u : Nat) (g : Nat → Int32), c + m = sz → m + 1 < K → u ≤ 2000 → fg_126_45 N K (.ref 16) (nI c) (fx (rsC V 0 u) (iup I 26 g) L R ++ tl) = fg_126_98 N (.ref 16) (fx (rsC V (nrun s v lm m c u g).1 (nrun s v lm m c u g).2.1) (iup I 26 (nrun s v lm m c u g).2.2) L R ++ tl) := by
  have hpg : ∀ (x : Int32) (u : Nat) (g : Nat → Int32), pg (fx (rsC V x u) (iup I 26 g) L R ++ tl) a it 3 ln sz m0 f := fun x u g => hp _ _ _ _ (fun j => by show vup (vup V 16 1 _) 16 2 _ a j = _; rw [vup_na ha, vup_na ha]) (iup_na hit)
  have h4' : ∀ (x : Int32) (u : Nat) (g : Nat → Int32), am_vR (am_pG 1540 (.ref 16) (fx (rsC V x u) (iup I 26 g) L R ++ tl)) = some (.ref a) := fun x u g => by
    show am_vR (some (V 16 4)) = _
    rw [h4]
    rfl
  intro m
  induction m with
  | zero =>
    intro c K u g hc hK hu
    obtain ⟨K, rfl⟩ : ∃ k, K = k + 1 := ⟨K - 1, by omega⟩
    obtain ⟨x1, x2, x3, x4, x5, x6, p1, p2⟩ := hpg 0 u g
    rw [fg_126_45]
    exact ev_b (h4' 0 u g) (ev_b (ev_gI p1 rfl rfl) (ev_t (nI_le (by omega) (by omega)) rfl))
  | succ m ih =>
    intro c K u g hc hK hu
    obtain ⟨K, rfl⟩ : ∃ k, K = k + 1 := ⟨K - 1, by omega⟩
    obtain ⟨x1, x2, x3, x4, x5, x6, p1, p2⟩ := hpg 0 u g
    rw [fg_126_45, nrun]
    refine ev_b (h4' 0 u g) (ev_b (ev_gI p1 rfl rfl) (ev_f (nI_ge (by omega) (by omega)) (ev_b (a := 0) rfl (ev_f (fun e => e rfl) (ev_i rfl ?_)))))
    by_cases d : u < lm
    · rw [if_pos d]
      obtain ⟨s1, s2, s3, s4⟩ := hs c (by omega)
      have g0 := c_54 (k := c) (w := 0) (hpg 0 (u + 1) g) hm0 hm1 (by omega) (by omega) (by decide)
      have g1 := c_54 (k := c) (w := 1) (hpg 0 (u + 1) g) hm0 hm1 (by omega) (by omega) (by decide)
      rw [show c * wdN 3 + 0 = c * 2 from rfl, s1] at g0
      rw [show c * wdN 3 + 1 = c * 2 + 1 from rfl, s2] at g1
      obtain ⟨y1, y2, y3, y4, y5, y6, p3, p4⟩ := hpg 0 (u + 1) g
      refine ev_cI (c_118 hl d hlm) (ev_f (by decide) (ev_b (h4' 0 (u + 1) g) (ev_i (ev_ok p3) (ev_cI g0 (ev_b (h4' 0 (u + 1) g) (ev_i (ev_ok p3) (ev_cI g1 (ev_i rfl (ev_cV (c_127 s3 s4) ?_)))))))))
      unfold fg_126_92
      rw [iup_iup, nI_1]
      exact ih (c + 1) K (u + 1) (nx g (s c) (v c)) (by omega) (by omega) (by omega)
    · rw [if_neg d]
      refine ev_cI (c_118n hl (by omega) hu) (ev_t rfl ?_)
      unfold fg_126_92
      obtain ⟨K, rfl⟩ : ∃ k, K = k + 1 := ⟨K - 1, by omega⟩
      obtain ⟨y1, y2, y3, y4, y5, y6, p3, p4⟩ := hpg 3 u g
      rw [fg_126_45]
      dsimp only
      rw [nI_1]
      refine ev_b (h4' 3 u g) (ev_b (ev_gI p3 rfl rfl) ?_)
      by_cases e : nI sz ≤ nI (c + 1)
      · exact ev_t e rfl
      · exact ev_f e (ev_b (a := 3) rfl (ev_t (by decide) rfl))
