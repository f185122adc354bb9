/-! ===== the third desk ===== -/
def dk3I (I : Nat → Nat → Int32) (b sz : Nat) : Nat → Nat → Int32 := iup (iup I 190 (ldr (I 190) (I 184) b sz)) 191 (ldr (I 191) (I 185) b sz)
set_option maxRecDepth 100000 in
set_option maxHeartbeats 1600000 in
theorem r_480l {V : Nat → Nat → Value} {I : Nat → Nat → Int32} {L : Nat → Nat → Int64} {R : Nat → Nat → Option Nat} {tl : am_H} {N b sz : Nat} (h23 : V 174 23 = .int (nI sz)) (hb : b < 600) (hs : sz ≤ 60) : ∀ (m k K : Nat), k + m = sz → m < K → fg_480_12 N K (.ref 174) (nI b) (nI k) (fx V (iup (iup I 190 (ldr (I 190) (I 184) b k)) 191 (ldr (I 191) (I 185) b k)) L R ++ tl) = fg_480_67 N N (.ref 174) (nI b) (nI sz + (-1)) (fx V (iup (iup I 190 (ldr (I 190) (I 184) b sz)) 191 (ldr (I 191) (I 185) b sz)) L R ++ tl) := by
  intro m
  induction m with
  | zero =>
    intro k K hk hK
    obtain ⟨K, rfl⟩ : ∃ k, K = k + 1 := ⟨K - 1, by omega⟩
    obtain rfl : k = sz := by omega
    rw [fg_480_12]
    refine ev_b (rdI h23) (ev_t (nI_le (Nat.le_refl _) (by omega)) (ev_b (rdI h23) ?_))
    rw [Int32.sub_eq_add_neg]
  | succ m ih =>
    intro k K hk hK
    obtain ⟨K, rfl⟩ : ∃ k, K = k + 1 := ⟨K - 1, by omega⟩
    rw [fg_480_12]
    dsimp only
    rw [show (60 : Int32) * nI b + nI k = nI (60 * b + k) from nI_add' b 60 k, nI_1]
    refine ev_b (rdI h23) (ev_f (nI_ge (by omega) (by omega)) (ev_b (a := Value.ref 190) rfl (ev_b (a := Value.ref 184) rfl (ev_b (qa_184 (by omega)) ?_))))
    refine ev_b (a := fx V (iup (iup I 190 (ldr (I 190) (I 184) b (k + 1))) 191 (ldr (I 191) (I 185) b k)) L R ++ tl) (ev_s (f := ldr (I 190) (I 184) b k) (n := 400) rfl (am_inb_n (by omega) (by omega)) rfl (by rw [nI_clamp (by omega), ← ldr_s (D := I 190) (Q := I 184)]; rfl)) ?_
    refine ev_b (a := Value.ref 191) rfl (ev_b (a := Value.ref 185) rfl (ev_b (qa_185 (by omega)) ?_))
    refine ev_b (a := fx V (iup (iup I 190 (ldr (I 190) (I 184) b (k + 1))) 191 (ldr (I 191) (I 185) b (k + 1))) L R ++ tl) (ev_s (f := ldr (I 191) (I 185) b k) (n := 400) rfl (am_inb_n (by omega) (by omega)) rfl (by rw [nI_clamp (by omega), ← ldr_s (D := I 191) (Q := I 185)]; rfl)) ?_
    exact ih (k + 1) K (by omega) (by omega)
set_option maxRecDepth 100000 in
set_option maxHeartbeats 1600000 in
theorem r_480h {V : Nat → Nat → Value} {I : Nat → Nat → Int32} {L : Nat → Nat → Int64} {R : Nat → Nat → Option Nat} {tl : am_H} {N b sz : Nat} {o : Option am_O} (hN : 100 < N) (hb : b < 600) (hs : sz ≤ 60) (q2 : I 176 b = nI sz) (ho : fg_480_67 N N (.ref 174) (nI b) (nI sz + (-1)) (fx (vup V 174 23 (.int (nI sz))) (dk3I I b sz) L R ++ tl) = o) : fm_480 N (.ref 174) (nI b) (fx V I L R ++ tl) = o := by
  have k := r_480l (V := vup V 174 23 (.int (nI sz))) (I := I) (L := L) (R := R) (tl := tl) (N := N) (b := b) (sz := sz) vup_eq hb hs sz 0 N (by omega) (by omega)
  have e1 : iup (iup I 190 (ldr (I 190) (I 184) b 0)) 191 (ldr (I 191) (I 185) b 0) = I := by rw [ldr_0, ldr_0, iup_self, iup_self]
  rw [e1] at k
  unfold fm_480 fg_480_0
  exact ev_b (a := Value.ref 176) rfl (ev_b (a := nI sz) ((qa_176 hb).trans (by rw [q2])) (ev_b qp_174_23 (k.trans ho)))
set_option maxRecDepth 100000 in
set_option maxHeartbeats 1600000 in
theorem r_480 {V : Nat → Nat → Value} {I : Nat → Nat → Int32} {L : Nat → Nat → Int64} {R : Nat → Nat → Option Nat} {tl : am_H} {N b kd sz : Nat} (hN : 100 < N) (hb : b < 600) (hs : sz ≤ 60) (hk : kd ≠ 0) (hk3 : kd ≤ 3) (q1 : I 175 b = nI kd) (q2 : I 176 b = nI sz) : fm_480 N (.ref 174) (nI b) (fx V I L R ++ tl) = some (.inl (none, fx (vup V 174 23 (.int (nI sz))) (dk3I I b sz) L R ++ tl)) := by
  refine r_480h hN hb hs q2 ?_
  obtain ⟨M, hM⟩ : ∃ M, N = M + 1 := ⟨N - 1, by omega⟩
  have key : ∀ M : Nat, fg_480_67 N (M + 1) (.ref 174) (nI b) (nI sz + (-1)) (fx (vup V 174 23 (.int (nI sz))) (dk3I I b sz) L R ++ tl) = some (.inl (none, fx (vup V 174 23 (.int (nI sz))) (dk3I I b sz) L R ++ tl)) := fun M => by
    rw [fg_480_67]
    by_cases c : nI sz + (-1) < 0
    · exact ev_t c rfl
    · exact ev_f c (ev_b (a := Value.ref 175) rfl (ev_b (a := nI kd) ((qa_175 hb).trans (congrArg some q1)) (ev_t (fun e => hk ((nI_eq (b := 0) (by omega) (by omega)).mp e)) rfl)))
  have := key M
  rw [← hM] at this
  exact this
set_option maxRecDepth 100000 in
set_option maxHeartbeats 1600000 in
theorem r_480i {V : Nat → Nat → Value} {I : Nat → Nat → Int32} {L : Nat → Nat → Int64} {R : Nat → Nat → Option Nat} {tl : am_H} {N b k m : Nat} {l r : List (Nat × Nat)} {x : Nat × Nat} {g : Nat → Int32} {rc : Value → Int32 → Int32 → am_H → Option am_O} (hl : l.length ≤ 60) (hS : rowS (I 190) l) (hd : l.drop k = x :: r) (hF : isF (m + arN x.1) r) (hg : rowT g l (k + 1)) : ∀ (q p K : Nat), p + q = arN x.1 → q < K → fg_480_85 N rc K (.ref 174) (nI b) (nI k) (nI (1 + tk p r)) (nI p) (fx V (iup I 193 g) L R ++ tl) = rc (.ref 174) (nI b) (nI k + (-1)) (fx V (iup I 193 (upd g k (nI (tk 1 (l.drop k))))) L R ++ tl) := by
  obtain ⟨s1, s2⟩ := hS k x r hd
  have hlen := drop_len hd
  have ha := ar_le x.1
  have gA : am_pA 0 (.ref 190) (nI k) (fx V (iup I 193 g) L R ++ tl) = some (nI x.1) := (qa_190 (by omega)).trans (congrArg some s1)
  intro q
  induction q with
  | zero =>
    intro p K hp hK
    obtain ⟨K, rfl⟩ : ∃ k, K = k + 1 := ⟨K - 1, by omega⟩
    rw [fg_480_85]
    refine ev_b (a := .ref 190) rfl (ev_b gA (ev_cI (ar_e x.1 s2 _) ?_))
    refine ev_t (nI_le (by omega) (by omega)) (ev_b (a := .ref 193) rfl ?_)
    refine ev_b (a := fx V (iup I 193 (upd g k (nI (1 + tk p r)))) L R ++ tl) ((qs_193 (by omega)).trans (by rw [iup_eq, iup_iup])) ?_
    rw [hd, show (1 : Nat) = 0 + 1 from rfl, tk_c, Nat.zero_add, Nat.zero_add, show p = arN x.1 by omega]
  | succ q ih =>
    intro p K hp hK
    obtain ⟨K, rfl⟩ : ∃ k, K = k + 1 := ⟨K - 1, by omega⟩
    have hlt := part_lt hd hF (show p < arN x.1 by omega)
    have e1 := hg (k + 1 + tk p r) (by omega) hlt
    rw [drop_s hd] at e1
    have e2 := tk_add r p 1
    rw [fg_480_85]
    refine ev_b (a := .ref 190) rfl (ev_b gA (ev_cI (ar_e x.1 s2 _) ?_))
    refine ev_f (nI_ge (by omega) (by omega)) (ev_b (a := .ref 193) rfl ?_)
    rw [nI_add, show k + (1 + tk p r) = k + 1 + tk p r by omega]
    refine ev_b (a := nI (tk 1 (r.drop (tk p r)))) ((qa_193 (by omega)).trans (congrArg some e1)) ?_
    rw [nI_add, nI_1, show 1 + tk p r + tk 1 (r.drop (tk p r)) = 1 + tk (p + 1) r by omega]
    exact ih (p + 1) K (by omega) (by omega)
set_option maxRecDepth 100000 in
set_option maxHeartbeats 1600000 in
theorem r_480o {V : Nat → Nat → Value} {I : Nat → Nat → Int32} {L : Nat → Nat → Int64} {R : Nat → Nat → Option Nat} {tl : am_H} {N b : Nat} {l : List (Nat × Nat)} (hN : 100 < N) (hb : b < 600) (hl : l.length ≤ 60) (q1 : I 175 b = nI 0) (hS : rowS (I 190) l) (hF : isF 1 l) : ∀ (k K : Nat) (g : Nat → Int32), k ≤ l.length → k < K → rowT g l k → ∃ g', rowT g' l 0 ∧ fg_480_67 N K (.ref 174) (nI b) (nI k + (-1)) (fx V (iup I 193 g) L R ++ tl) = some (.inl (none, fx V (iup I 193 g') L R ++ tl)) := by
  intro k
  induction k with
  | zero =>
    intro K g hk hK hg
    obtain ⟨K, rfl⟩ : ∃ k, K = k + 1 := ⟨K - 1, by omega⟩
    refine ⟨g, hg, ?_⟩
    rw [fg_480_67]
    exact ev_t (by decide) rfl
  | succ k ih =>
    intro K g hk hK hg
    obtain ⟨K, rfl⟩ : ∃ k, K = k + 1 := ⟨K - 1, by omega⟩
    obtain ⟨x, r, m, hd, hm⟩ := isF_at hF (show k < l.length by omega)
    have ha := ar_le x.1
    have e := r_480i (V := V) (I := I) (L := L) (R := R) (tl := tl) (N := N) (b := b) (rc := fg_480_67 N K) hl hS hd hm hg (arN x.1) 0 N (by omega) (by omega)
    rw [tk_0] at e
    obtain ⟨g', h1, h2⟩ := ih K (upd g k (nI (tk 1 (l.drop k)))) (by omega) (by omega) (fun j j1 j2 => by
      by_cases c : j = k
      · rw [c]; exact upd_eq
      · rw [upd_ne c]; exact hg j (by omega) j2)
    refine ⟨g', h1, ?_⟩
    rw [fg_480_67, nI_m1]
    refine ev_f (nI_pos (by omega)) (ev_b (a := Value.ref 175) rfl (ev_b (a := nI 0) ((qa_175 hb).trans (congrArg some q1)) (ev_f (fun e => e rfl) ?_)))
    exact e.trans h2
theorem r_480t {V : Nat → Nat → Value} {I : Nat → Nat → Int32} {L : Nat → Nat → Int64} {R : Nat → Nat → Option Nat} {tl : am_H} {N b : Nat} {l : List (Nat × Nat)} (hN : 100 < N) (hb : b < 600) (hl : l.length ≤ 60) (hF : isF 1 l) (q1 : I 175 b = nI 0) (q2 : I 176 b = nI l.length) (hS : ∀ k x r, l.drop k = x :: r → I 184 (60 * b + k) = nI x.1 ∧ x.1 ≤ 20) : ∃ g, rowT g l 0 ∧ fm_480 N (.ref 174) (nI b) (fx V I L R ++ tl) = some (.inl (none, fx (vup V 174 23 (.int (nI l.length))) (iup (dk3I I b l.length) 193 g) L R ++ tl)) := by
  obtain ⟨g, h1, h2⟩ := r_480o (V := vup V 174 23 (.int (nI l.length))) (I := dk3I I b l.length) (L := L) (R := R) (tl := tl) (N := N) (b := b) (l := l) hN hb hl q1 (fun k x r hd => ⟨(ldr_at (by have := drop_len hd; omega)).trans (hS k x r hd).1, (hS k x r hd).2⟩) hF l.length N (dk3I I b l.length 193) (Nat.le_refl _) (by omega) (fun j j1 j2 => by omega)
  rw [iup_self] at h2
  exact ⟨g, h1, r_480h hN hb hl q2 h2⟩
