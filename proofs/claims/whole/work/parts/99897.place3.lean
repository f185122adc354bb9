/-! ===== place(b): both, in one ===== -/
def ckA (l : List (Nat × Nat)) (v : Nat → Int32) : Nat → Nat → Bool
  | 0, _ => true
  | m + 1, k => if sL l k = 0 ∧ (v k < 0 ∨ ¬ v k ≤ 9) then false else ckA l v m (k + 1)
theorem ckA_at {l : List (Nat × Nat)} {v : Nat → Int32} : ∀ (m k : Nat), ckA l v m k = true → ∀ j, k ≤ j → j < k + m → sL l j = 0 → ¬ v j < 0 ∧ v j ≤ 9 := by
  intro m
  induction m with
  | zero => intro k _ j h1 h2; omega
  | succ m ih =>
    intro k h j h1 h2 hj
    by_cases c : sL l k = 0 ∧ (v k < 0 ∨ ¬ v k ≤ 9)
    · rw [ckA, if_pos c] at h; cases h
    · rw [ckA, if_neg c] at h
      by_cases e : j = k
      · rw [e] at hj ⊢
        refine ⟨fun e2 => c ⟨hj, .inl e2⟩, ?_⟩
        by_cases e3 : v k ≤ 9
        · exact e3
        · exact absurd ⟨hj, .inr e3⟩ c
      · exact ih (k + 1) h j (by omega) (by omega) hj
theorem lup_lup {L : Nat → Nat → Int64} {a : Nat} {f g : Nat → Int64} : lup (lup L a f) a g = lup L a g := by
  funext y
  by_cases c : y = a
  · rw [c, lup_eq, lup_eq]
  · rw [lup_na c, lup_na c, lup_na c]
theorem n64 : ∀ a, a < 10 → (nI a).toInt64 = lN a := by decide
theorem cst {x : Int32} (h : two x) (h0 : ¬ x < 0) (h9 : x ≤ 9) : x.toInt64 = lN x.toNatClampNeg := by
  have : ∃ a, a < 10 ∧ x = nI a := by
    rcases h with ⟨a, ha, rfl⟩ | ⟨a, ha, rfl⟩
    · refine ⟨a, ?_, rfl⟩
      by_cases c : a < 10
      · exact c
      · exact absurd h9 (nI_ge (a := 9) (by omega) (by omega))
    · have key : ∀ a, a < 100 → 1 ≤ a → - nI a < 0 := by decide
      by_cases c : a = 0
      · exact ⟨0, by omega, by rw [c]; rfl⟩
      · exact absurd (key a (by omega) (by omega)) h0
  obtain ⟨a, h1, rfl⟩ := this
  rw [n64 a h1, nI_clamp (by omega)]
set_option maxRecDepth 100000 in
set_option maxHeartbeats 1600000 in
theorem c_98l {V : Nat → Nat → Value} {I : Nat → Nat → Int32} {L : Nat → Nat → Int64} {R : Nat → Nat → Option Nat} {tl : am_H} {A N : Nat} {l : List (Nat × Nat)} {v : Nat → Int32} {o : Option am_O} (hl : l.length ≤ 12) (h1 : am_vI (am_pG 771 (.ref A) (fx V I L R ++ tl)) = some (nI l.length)) (hok : am_pOk 3 (.ref A) (fx V I L R ++ tl) = true) (hg : ∀ k x r, l.drop k = x :: r → fm_54 (.ref A) (nI k) 0 (fx V I L R ++ tl) = some (.inl (some (.int (nI x.1)), fx V I L R ++ tl)) ∧ fm_54 (.ref A) (nI k) 1 (fx V I L R ++ tl) = some (.inl (some (.int (v k)), fx V I L R ++ tl)) ∧ x.1 ≤ 20) (ho : ((am_pP 1027 (.ref 76) (.ref A) (fx V I L R ++ tl)).bind fun h4 => ((am_vR (am_pG 1026 (.ref 76) h4)).bind fun v6 => (if am_pOk 7 v6 h4 then am_cV true (fm_77 N v6 (.ref A) h4) (fun h10 => (if am_pOk 4 (.ref 76) h10 then am_cL true (fm_99 N (.ref 76) 0 0 1 h10) (fun v13 h14 => some (.inl (some (.long v13), h14))) else none)) else none))) = o) : ∀ (m k K : Nat), k + m = l.length → m < K → fg_98_2 N K (.ref 76) (.ref A) (nI k) (fx V I L R ++ tl) = if ckA l v m k = true then o else some (.inl (some (.long (-1)), fx V I L R ++ tl)) := by
  intro m
  induction m with
  | zero =>
    intro k K hk hK
    obtain ⟨K, rfl⟩ : ∃ k, K = k + 1 := ⟨K - 1, by omega⟩
    rw [fg_98_2, if_pos (show ckA l v 0 k = true from rfl)]
    exact ev_b h1 (ev_t (nI_le (by omega) (by omega)) ho)
  | succ m ih =>
    intro k K hk hK
    obtain ⟨K, rfl⟩ : ∃ k, K = k + 1 := ⟨K - 1, by omega⟩
    have e := ih (k + 1) K (by omega) (by omega)
    obtain ⟨x, r, hd⟩ : ∃ x r, l.drop k = x :: r := ⟨_, _, List.drop_eq_getElem_cons (by omega)⟩
    obtain ⟨g0, g1, x20⟩ := hg k x r hd
    have sx := sL_at hd
    have nx' : fg_98_43 N (fg_98_2 N K) (.ref 76) (.ref A) (nI k) (fx V I L R ++ tl) = if ckA l v m (k + 1) = true then o else some (.inl (some (.long (-1)), fx V I L R ++ tl)) := by
      unfold fg_98_43
      rw [nI_1]
      exact e
    rw [fg_98_2, ckA, sx]
    refine ev_b h1 (ev_f (nI_ge (by omega) (by omega)) (ev_i hok (ev_cI g0 ?_)))
    by_cases c0 : x.1 = 0
    · refine ev_f (fun e => e (by rw [c0]; rfl)) (ev_i hok (ev_cI g1 ?_))
      by_cases c1 : v k < 0
      · rw [if_pos (show x.1 = 0 ∧ (v k < 0 ∨ ¬ v k ≤ 9) from ⟨c0, .inl c1⟩)]
        exact ev_t c1 rfl
      · refine ev_f c1 (ev_i hok (ev_cI g1 ?_))
        by_cases c2 : v k ≤ 9
        · rw [if_neg (show ¬ (x.1 = 0 ∧ (v k < 0 ∨ ¬ v k ≤ 9)) from fun e => e.2.elim c1 (fun h => h c2))]
          exact ev_t c2 nx'
        · rw [if_pos (show x.1 = 0 ∧ (v k < 0 ∨ ¬ v k ≤ 9) from ⟨c0, .inr c2⟩)]
          exact ev_f c2 rfl
    · rw [if_neg (show ¬ (x.1 = 0 ∧ (v k < 0 ∨ ¬ v k ≤ 9)) from fun e => c0 e.1)]
      exact ev_t (fun e => c0 ((nI_eq (b := 0) (by omega) (by omega)).mp e)) nx'
set_option maxRecDepth 100000 in
set_option maxHeartbeats 1600000 in
theorem r_390c {V : Nat → Nat → Value} {I : Nat → Nat → Int32} {L : Nat → Nat → Int64} {R : Nat → Nat → Option Nat} {tl : am_H} {N : Nat} {l : List (Nat × Nat)} {v : Nat → Int32} {o : Option am_O} (hl : l.length ≤ 12) (h18 : V 174 18 = .int (nI l.length)) (hg : ∀ k x r, l.drop k = x :: r → I 188 k = nI x.1 ∧ I 189 k = v k ∧ x.1 ≤ 20) (ho : ((am_vR (am_pG 3162 (.ref 174) (fx V I L R ++ tl))).bind fun v4 => ((am_pS 0 v4 0 0 (fx V I L R ++ tl)).bind fun h6 => (fg_390_138 N N (.ref 174) 0 h6))) = o) : ∀ (m k K : Nat), k + m = l.length → m < K → fg_390_85 N K (.ref 174) (nI k) (fx V I L R ++ tl) = if ckA l v m k = true then o else some (.inl (some (.long (-1)), fx V I L R ++ tl)) := by
  intro m
  induction m with
  | zero =>
    intro k K hk hK
    obtain ⟨K, rfl⟩ : ∃ k, K = k + 1 := ⟨K - 1, by omega⟩
    rw [fg_390_85, if_pos (show ckA l v 0 k = true from rfl)]
    exact ev_b (rdI h18) (ev_t (nI_le (by omega) (by omega)) ho)
  | succ m ih =>
    intro k K hk hK
    obtain ⟨K, rfl⟩ : ∃ k, K = k + 1 := ⟨K - 1, by omega⟩
    have e := ih (k + 1) K (by omega) (by omega)
    obtain ⟨x, r, hd⟩ : ∃ x r, l.drop k = x :: r := ⟨_, _, List.drop_eq_getElem_cons (by omega)⟩
    obtain ⟨g0, g1, x20⟩ := hg k x r hd
    have sx := sL_at hd
    have nx' : fg_390_123 N (fg_390_85 N K) (.ref 174) (nI k) (fx V I L R ++ tl) = if ckA l v m (k + 1) = true then o else some (.inl (some (.long (-1)), fx V I L R ++ tl)) := by
      unfold fg_390_123
      rw [nI_1]
      exact e
    rw [fg_390_85, ckA, sx]
    refine ev_b (rdI h18) (ev_f (nI_ge (by omega) (by omega)) (ev_b (a := Value.ref 188) rfl (ev_b (a := nI x.1) ((qa_188 (by omega)).trans (congrArg some g0)) ?_)))
    by_cases c0 : x.1 = 0
    · refine ev_f (fun e => e (by rw [c0]; rfl)) (ev_b (a := Value.ref 189) rfl (ev_b (a := v k) ((qa_189 (by omega)).trans (congrArg some g1)) (ev_cI (pe_327 _ _ _ _) ?_)))
      by_cases c1 : v k < 0 ∨ ¬ v k ≤ 9
      · rw [if_pos (show x.1 = 0 ∧ (v k < 0 ∨ ¬ v k ≤ 9) from ⟨c0, c1⟩), show pv_327 (v k).toInt64 0 9 = 0 from c1.elim (fun h => in_lo (w64lt (b := 0) h)) (fun h => in_hi (w64lt (a := 9) (Int32.not_le.mp h)))]
        exact ev_f (fun e => e rfl) rfl
      · have c2 : ¬ v k < 0 := fun e => c1 (.inl e)
        have c3 : v k ≤ 9 := by
          by_cases h : v k ≤ 9
          · exact h
          · exact absurd (.inr h) c1
        rw [if_neg (show ¬ (x.1 = 0 ∧ (v k < 0 ∨ ¬ v k ≤ 9)) from fun e => c1 e.2), show pv_327 (v k).toInt64 0 9 = 1 from in_ok (w64le (a := 0) (Int32.not_lt.mp c2)) (w64le (b := 9) c3)]
        exact ev_t (by decide) nx'
    · rw [if_neg (show ¬ (x.1 = 0 ∧ (v k < 0 ∨ ¬ v k ≤ 9)) from fun e => c0 e.1)]
      exact ev_t (fun e => c0 ((nI_eq (b := 0) (by omega) (by omega)).mp e)) nx'
set_option maxRecDepth 100000 in
set_option maxHeartbeats 1600000 in
theorem r_390i {V : Nat → Nat → Value} {I : Nat → Nat → Int32} {L : Nat → Nat → Int64} {R : Nat → Nat → Option Nat} {tl : am_H} {N k w mm : Nat} {l r : List (Nat × Nat)} {x : Nat × Nat} {rc : Value → Int32 → am_H → Option am_O} (hN : 100 < N) (hl : l.length ≤ 12) (hdr : l.drop k = x :: r) (hF : isF (mm + arN x.1) r) (x20 : x.1 ≤ 20) (w3 : w < 3) (hS : I 188 k = nI x.1) (hT : rowT (I 192) l 0) : ∀ (q p K : Nat) (g : Nat → Int32), p + q = arN x.1 → q < K → g k = nI w → (∀ i, i < p → g (k + 1 + tk i r) = nI (pwN w x.1 i)) → ∃ g', (∀ i, i < arN x.1 → g' (k + 1 + tk i r) = nI (pwN w x.1 i)) ∧ (∀ j, (∀ i, p ≤ i → i < arN x.1 → j ≠ k + 1 + tk i r) → g' j = g j) ∧ fg_390_148 N rc K (.ref 174) (nI k) (nI p) (fx V (iup I 232 g) L R ++ tl) = rc (.ref 174) (nI (k + 1)) (fx V (iup I 232 g') L R ++ tl) := by
  have len := drop_len hdr
  have ar3 := ar_le x.1
  have a188 : ∀ g : Nat → Int32, am_pA 0 (.ref 188) (nI k) (fx V (iup I 232 g) L R ++ tl) = some (nI x.1) := fun g => (qa_188 (by omega)).trans (congrArg some hS)
  intro q
  induction q with
  | zero =>
    intro p K g hp hK hk hpre
    obtain ⟨K, rfl⟩ : ∃ k, K = k + 1 := ⟨K - 1, by omega⟩
    refine ⟨g, fun i hi => hpre i (by omega), fun _ _ => rfl, ?_⟩
    rw [fg_390_148]
    refine ev_b (a := Value.ref 188) rfl (ev_b (a188 g) (ev_cI (pe_343 _ _) ?_))
    rw [ar_eq x.1 (by omega), nI_1]
    exact ev_t (nI_le (by omega) (by omega)) rfl
  | succ q ih =>
    intro p K g hp hK hk hpre
    obtain ⟨K, rfl⟩ : ∃ k, K = k + 1 := ⟨K - 1, by omega⟩
    have lt := part_lt hdr hF (show p < arN x.1 by omega)
    have ne : ∀ i, i < p → k + 1 + tk i r ≠ k + 1 + tk p r := fun i hi => by
      have := tk_lt hF hi (show p ≤ mm + arN x.1 by omega)
      omega
    obtain ⟨g', h1, h2, h3⟩ := ih (p + 1) K (upd g (k + 1 + tk p r) (nI (pwN w x.1 p))) (by omega) (by omega) (by rw [upd_ne (by omega)]; exact hk) (fun i hi => by
      by_cases c : i = p
      · rw [c, upd_eq]
      · rw [upd_ne (ne i (by omega))]; exact hpre i (by omega))
    refine ⟨g', h1, fun j hj => ?_, ?_⟩
    · have y1 := h2 j (fun i i1 i2 => hj i (by omega) i2)
      rw [upd_ne (hj p (by omega) (by omega))] at y1
      exact y1
    · have p1 := r_393 (V := V) (I := iup I 232 g) (L := L) (R := R) (tl := tl) (N := N) (P := p) hN (by omega) hT hdr hF (by omega)
      rw [fg_390_148]
      refine ev_b (a := Value.ref 188) rfl (ev_b (a188 g) (ev_cI (pe_343 _ _) ?_))
      rw [ar_eq x.1 (by omega)]
      refine ev_f (nI_ge (by omega) (by omega)) (ev_b (a := Value.ref 232) rfl (ev_i rfl (ev_cI p1 (ev_b (a := Value.ref 232) rfl (ev_b (a := nI w) ((qa_232 (by omega)).trans (congrArg some hk)) (ev_b (a := Value.ref 188) rfl (ev_b (a188 g) (ev_cI (pe_381 _ _ _ _) ?_))))))))
      rw [pw_eq w (by omega) x.1 (by omega) p (by omega), nI_1]
      exact ev_b (a := fx V (iup I 232 (upd g (k + 1 + tk p r) (nI (pwN w x.1 p)))) L R ++ tl) ((qs_232 (by omega)).trans (by rw [iup_eq, iup_iup])) h3
set_option maxRecDepth 100000 in
set_option maxHeartbeats 1600000 in
theorem r_390w {V : Nat → Nat → Value} {I : Nat → Nat → Int32} {L : Nat → Nat → Int64} {R : Nat → Nat → Option Nat} {tl : am_H} {N : Nat} {l : List (Nat × Nat)} (hN : 100 < N) (ho : okF [(0, 1, 0)] l) (hl : l.length ≤ 12) (h18 : V 174 18 = .int (nI l.length)) (hS : ∀ k x r, l.drop k = x :: r → I 188 k = nI x.1) (hT : rowT (I 192) l 0) : ∀ (lst : List (Nat × Nat)) (st : List (Nat × Nat × Nat)) (k K : Nat) (g : Nat → Int32), l.drop k = lst → k ≤ l.length → okF st lst → (cxl [(0, 1, 0)] l).drop k = cxl st lst → lst.length < K → (∀ j, j < k → g j = nI (inL l j)) → (∀ i c, st[i]? = some c → g (k + tk i lst) = nI c.2.2) → ∃ g', (∀ j, j < l.length → g' j = nI (inL l j)) ∧ fg_390_138 N K (.ref 174) (nI k) (fx V (iup I 232 g) L R ++ tl) = fg_390_207 N N (.ref 174) (nI l.length - 1) (fx V (iup I 232 g') L R ++ tl) := by
  intro lst
  induction lst with
  | nil =>
    intro st k K g hd hk hst hcx hK h1 h2
    obtain ⟨K, rfl⟩ : ∃ k, K = k + 1 := ⟨K - 1, by omega⟩
    have lk : k = l.length := by
      have := congrArg List.length hd
      rw [List.length_drop, List.length_nil] at this
      omega
    refine ⟨g, fun j hj => h1 j (by omega), ?_⟩
    rw [fg_390_138, lk]
    exact ev_b (rdI h18) (ev_t (nI_le (by omega) (by omega)) (ev_b (rdI h18) rfl))
  | cons x r ih =>
    intro st k K g hd hk hst hcx hK h1 h2
    obtain ⟨K, rfl⟩ : ∃ k, K = k + 1 := ⟨K - 1, by omega⟩
    rw [List.length_cons] at hK
    have len := drop_len hd
    cases st with
    | nil => exact absurd hst (fun e => e)
    | cons c st =>
      rw [cxl_c] at hcx
      have ck : cxK l k = c := drop_get hcx
      have ik : inL l k = c.2.2 := by unfold inL; rw [ck]
      have i1 := in_le1 l k
      have w2 := h2 0 c rfl
      rw [tk_0, Nat.add_zero] at w2
      have ar3 := ar_le x.1
      have hF : isF (st.length + arN x.1) r := okF_F _ _ hst
      obtain ⟨g1, a1, a2, a3⟩ := r_390i (V := V) (I := I) (L := L) (R := R) (tl := tl) (N := N) (w := c.2.2) (rc := fg_390_138 N K) hN hl hd hF hst.1 (by omega) (hS k x r hd) hT (arN x.1) 0 N g (by omega) (by omega) w2 (fun i hi => by omega)
      have d1 : l.drop (k + 1) = r := by
        have := drop_s hd 0
        rw [List.drop_zero] at this
        exact this
      obtain ⟨g', b1, b2⟩ := ih (kid x.1 c ++ st) (k + 1) K g1 d1 (by omega) hst.2.2.2.2.2 (by rw [← List.drop_drop, hcx, List.drop_succ_cons, List.drop_zero]) (by omega) (fun j hj => by
        have y1 := a2 j (fun i _ _ => by omega)
        rw [y1]
        by_cases c' : j = k
        · rw [c', w2, ik]
        · exact h1 j (by omega)) (fun i y hy => by
        by_cases ci : i < arN x.1
        · rw [List.getElem?_append_left (by rw [kid_len]; exact ci)] at hy
          obtain ⟨-, rfl⟩ := kid_get hy
          exact a1 i ci
        · rw [List.getElem?_append_right (by rw [kid_len]; omega), kid_len] at hy
          have il : i - arN x.1 < st.length := (List.getElem?_eq_some_iff.mp hy).1
          have z := h2 (i - arN x.1 + 1) y (by rw [List.getElem?_cons_succ]; exact hy)
          rw [tk_c, show i - arN x.1 + arN x.1 = i by omega, show k + (1 + tk i r) = k + 1 + tk i r by omega] at z
          have y1 := a2 (k + 1 + tk i r) (fun i' _ i2 => by
            have := tk_lt hF (show i' < i by omega) (show i ≤ st.length + arN x.1 by omega)
            omega)
          rw [y1]
          exact z)
      refine ⟨g', b1, ?_⟩
      rw [fg_390_138]
      exact ev_b (rdI h18) (ev_f (nI_ge (by omega) (by omega)) (a3.trans b2))
set_option maxRecDepth 100000 in
set_option maxHeartbeats 1600000 in
theorem r_390u {V : Nat → Nat → Value} {I : Nat → Nat → Int32} {L : Nat → Nat → Int64} {R : Nat → Nat → Option Nat} {tl : am_H} {N : Nat} {l : List (Nat × Nat)} {v : Nat → Int32} (hN : 100 < N) (ho : okF [(0, 1, 0)] l) (hl : l.length ≤ 12) (hw : wt V) (h4 : L 224 = tC) (h5 : L 225 = tS) (hS : ∀ k x r, l.drop k = x :: r → I 188 k = nI x.1 ∧ I 189 k = v k) (hT : rowT (I 192) l 0) (hW : ∀ k, k < l.length → I 232 k = nI (inL l k)) (hcv : ∀ k x r, l.drop k = x :: r → x.1 = 0 → (v k).toInt64 = lN (clN v k)) (hv0 : ∀ k x r, l.drop k = x :: r → x.1 ≠ 0 → clN v k = 0) : ∀ (k K : Nat) (M : Nat → Int64), k ≤ l.length → k < K → (∀ j, k ≤ j → j < l.length → M j = lN (rR l v j)) → ∃ M', fg_390_207 N K (.ref 174) (nI k + (-1)) (fx V I (lup L 231 M) R ++ tl) = some (.inl (some (.long (lN (rR l v 0))), fx V I (lup L 231 M') R ++ tl)) := by
  intro k
  induction k with
  | zero =>
    intro K M hk hK hM
    obtain ⟨K, rfl⟩ : ∃ k, K = k + 1 := ⟨K - 1, by omega⟩
    refine ⟨M, ?_⟩
    rw [fg_390_207]
    exact ev_t (by decide) (ev_b (a := Value.ref 231) rfl (ev_b (a := lN (rR l v 0)) ((qa_231 (k := 0) (by omega)).trans (by rw [lup_eq, hM 0 (by omega) (cx0 ho).2])) rfl))
  | succ k ih =>
    intro K M hk hK hM
    obtain ⟨K, rfl⟩ : ∃ k, K = k + 1 := ⟨K - 1, by omega⟩
    obtain ⟨x, r, mm, hd, hF⟩ := isF_at (okF_F l _ ho) (show k < l.length by omega)
    obtain ⟨M', e⟩ := ih K (vp_updL M k (lN (rR l v k))) (by omega) (by omega) (fun j j1 j2 => by
      by_cases c : j = k
      · rw [c, updL_eq]
      · rw [updL_ne c]; exact hM j (by omega) j2)
    have q := r_394 (V := V) (I := I) (L := lup L 231 M) (R := R) (tl := tl) (N := N) (v := v) hN ho hl hd hw ((lup_na (by decide)).trans h4) ((lup_na (by decide)).trans h5) (hS k x r hd).1 (hS k x r hd).2 hT (hW k (by omega)) (fun j j1 j2 => by rw [lup_eq]; exact hM j (by omega) j2) (hcv k x r hd) (hv0 k x r hd)
    refine ⟨M', ?_⟩
    rw [fg_390_207, nI_m1]
    refine ev_f (nI_pos (by omega)) (ev_b (a := Value.ref 231) rfl (ev_i rfl (ev_cL q (ev_b (a := fx V I (lup L 231 (vp_updL M k (lN (rR l v k)))) R ++ tl) ((qs_231 (by omega)).trans (by rw [lup_eq, lup_lup])) e))))
