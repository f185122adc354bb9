/-! ===== proves(a, b) ===== -/
set_option maxRecDepth 100000 in
set_option maxHeartbeats 4000000 in
theorem c_86lm {h : am_H} {a it a' it' kd ln sz m0 m1 : Nat} {f g : Nat → Int32} {N : Nat} (hp : pg h a it kd ln sz m0 f) (hp2 : pg h a' it' kd ln sz m1 g) (hm0 : sz * wdN kd ≤ m0) (hm1 : sz * wdN kd ≤ m1) (hs : sz * wdN kd ≤ 1000) : ∀ (m k K : Nat), k + m = sz * wdN kd → m < K → ∃ r : Int32, fg_86_37 N K (.ref a) (.ref a') (nI k) h = some (.inl (some (.int r), h)) ∧ ((r = 1 ∧ ∀ q, k ≤ q → q < sz * wdN kd → f q = g q) ∨ (r = 0 ∧ ∃ q, q < sz * wdN kd ∧ f q ≠ g q)) := by
  obtain ⟨x1, x2, x3, x4, x5, x6, p1, p2⟩ := hp
  obtain ⟨y1, y2, y3, y4, y5, y6, p3, p4⟩ := hp2
  intro m
  induction m with
  | zero =>
    intro k K hk hK
    obtain ⟨K, rfl⟩ : ∃ k, K = k + 1 := ⟨K - 1, by omega⟩
    refine ⟨1, ?_, .inl ⟨rfl, fun q h1 h2 => by omega⟩⟩
    rw [fg_86_37]
    refine ev_b (ev_gI p1 rfl rfl) (ev_b (ev_gI p1 rfl rfl) ?_)
    rw [← nI_mul]
    exact ev_t (nI_le (by omega) (by omega)) rfl
  | succ m ih =>
    intro k K hk hK
    obtain ⟨K, rfl⟩ : ∃ k, K = k + 1 := ⟨K - 1, by omega⟩
    have st : ∀ o, (if f k = g k then fg_86_37 N K (.ref a) (.ref a') (nI (k + 1)) h else some (.inl (some (.int 0), h))) = o → fg_86_37 N (K + 1) (.ref a) (.ref a') (nI k) h = o := fun o ho => by
      rw [fg_86_37]
      dsimp only
      rw [nI_1]
      refine ev_b (ev_gI p1 rfl rfl) (ev_b (ev_gI p1 rfl rfl) ?_)
      rw [← nI_mul]
      refine ev_f (nI_ge (by omega) (by omega)) (ev_b (ev_gR p1 rfl rfl rfl) (ev_b (a := f k) ((ev_a p2 (am_inb_n (by omega) (by omega))).trans (by rw [nI_clamp (by omega)])) (ev_b (ev_gR p3 rfl rfl rfl) (ev_b (a := g k) ((ev_a p4 (am_inb_n (by omega) (by omega))).trans (by rw [nI_clamp (by omega)])) ho))))
    by_cases c : f k = g k
    · obtain ⟨r, e1, e2⟩ := ih (k + 1) K (by omega) (by omega)
      refine ⟨r, st _ (ev_t c e1), ?_⟩
      rcases e2 with ⟨h1, h2⟩ | ⟨h1, h2⟩
      · exact .inl ⟨h1, fun q a b => by
          by_cases d : q = k
          · rw [d]; exact c
          · exact h2 q (by omega) b⟩
      · exact .inr ⟨h1, h2⟩
    · exact ⟨0, st _ (ev_f c rfl), .inr ⟨rfl, k, by omega, c⟩⟩
set_option maxRecDepth 100000 in
set_option maxHeartbeats 4000000 in
theorem c_86m {h : am_H} {N a it kd ln sz a' it' kd' ln' sz' m0 m1 : Nat} {f g s v s' v' : Nat → Int32} (hN : 1000 < N) (hp : pg h a it kd ln sz m0 f) (hp2 : pg h a' it' kd' ln' sz' m1 g) (hm0 : sz * wdN kd ≤ m0) (hm1 : sz' * wdN kd' ≤ m1) (i1 : itm kd s v sz f) (i2 : itm kd' s' v' sz' g) (o1 : sound kd ln sz s v) (o2 : sound kd' ln' sz' s' v') : ∃ r : Int32, fm_86 N (.ref a) (.ref a') h = some (.inl (some (.int r), h)) ∧ ((r = 1 ∧ smP kd ln sz s v kd' ln' sz' s' v') ∨ (r = 0 ∧ ¬ smP kd ln sz s v kd' ln' sz' s' v')) := by
  have hs := o1.2.1
  have hs' := o2.2.1
  have k3 := o1.1
  have k3' := o2.1
  have l8 : ln ≤ 8 := by
    by_cases c : kd = 3
    · exact (o1.2.2.2.2.2.2 c).2.1
    · have := (o1.2.2.1 c).2; omega
  have l8' : ln' ≤ 8 := by
    by_cases c : kd' = 3
    · exact (o2.2.2.2.2.2.2 c).2.1
    · have := (o2.2.2.1 c).2; omega
  have z9 := sz_1000 (kd := kd) hs
  obtain ⟨x1, x2, x3, x4, x5, x6, p1, p2⟩ := hp
  obtain ⟨y1, y2, y3, y4, y5, y6, p3, p4⟩ := hp2
  by_cases ck : kd = kd'
  · by_cases cl : ln = ln'
    · by_cases cs : sz = sz'
      · subst ck
        subst cl
        subst cs
        obtain ⟨r, e1, e2⟩ := c_86lm (N := N) ⟨x1, x2, x3, x4, x5, x6, p1, p2⟩ ⟨y1, y2, y3, y4, y5, y6, p3, p4⟩ hm0 hm1 z9 (sz * wdN kd) 0 N (by omega) (by omega)
        refine ⟨r, ?_, ?_⟩
        · unfold fm_86 fg_86_0
          exact ev_b (ev_gI p1 rfl rfl) (ev_b (ev_gI p3 rfl rfl) (ev_f (fun e => e rfl) (ev_b (ev_gI p1 rfl rfl) (ev_b (ev_gI p3 rfl rfl) (ev_f (fun e => e rfl) (ev_b (ev_gI p1 rfl rfl) (ev_b (ev_gI p3 rfl rfl) (ev_t rfl e1))))))))
        · have iff := itm_eq i1 i2 o1 o2
          rcases e2 with ⟨h1, h2⟩ | ⟨h1, q, h2, h3⟩
          · exact .inl ⟨h1, rfl, rfl, rfl, iff.mp (fun q hq => h2 q (by omega) hq)⟩
          · exact .inr ⟨h1, fun e => h3 (iff.mpr e.2.2.2 q h2)⟩
      · refine ⟨0, ?_, .inr ⟨rfl, fun e => cs e.2.2.1⟩⟩
        unfold fm_86 fg_86_0
        exact ev_b (ev_gI p1 rfl rfl) (ev_b (ev_gI p3 rfl rfl) (ev_f (fun e => e (by rw [ck])) (ev_b (ev_gI p1 rfl rfl) (ev_b (ev_gI p3 rfl rfl) (ev_f (fun e => e (by rw [cl])) (ev_b (ev_gI p1 rfl rfl) (ev_b (ev_gI p3 rfl rfl) (ev_f (fun e => cs ((nI_eq (by omega) (by omega)).mp e)) rfl))))))))
    · refine ⟨0, ?_, .inr ⟨rfl, fun e => cl e.2.1⟩⟩
      unfold fm_86 fg_86_0
      exact ev_b (ev_gI p1 rfl rfl) (ev_b (ev_gI p3 rfl rfl) (ev_f (fun e => e (by rw [ck])) (ev_b (ev_gI p1 rfl rfl) (ev_b (ev_gI p3 rfl rfl) (ev_t (fun e => cl ((nI_eq (by omega) (by omega)).mp e)) rfl)))))
  · refine ⟨0, ?_, .inr ⟨rfl, fun e => ck e.1⟩⟩
    unfold fm_86 fg_86_0
    exact ev_b (ev_gI p1 rfl rfl) (ev_b (ev_gI p3 rfl rfl) (ev_t (fun e => ck ((nI_eq (by omega) (by omega)).mp e)) rfl))
set_option maxRecDepth 100000 in
set_option maxHeartbeats 4000000 in
theorem r_555l {L : Nat → Nat → Int64} {R : Nat → Nat → Option Nat} {tl : am_H} {N b : Nat} {nt : Int32} {l : List (Nat × Nat)} (hN : 400 < N) (hl60 : l.length ≤ 60) (hlb : ∀ x, x ∈ l → x.1 < 60 ∧ x.2 < 9) : ∀ (m i K : Nat) (P : xT) (V : Nat → Nat → Value) (I : Nat → Nat → Int32), i + m = l.length → m + 2 ≤ K → okP P → rA V I nt P → rwR V I l → ∃ W J Q, fg_555_62 N K (.ref 174) (nI b) 1 (nI i) (fx V I L R ++ tl) = fg_555_130 N (.ref 174) (nI b) (bI (gov (l.drop i) P).isSome) (fx W J L R ++ tl) ∧ rA W J nt Q ∧ okP Q ∧ (∀ Q', gov (l.drop i) P = some Q' → Q = Q') ∧ frX V W I J ∧ frU3 V W I J := by
  intro m
  induction m with
  | zero =>
    intro i K P V I hm hK ho hA hr
    obtain ⟨K, rfl⟩ : ∃ k, K = k + 1 := ⟨K - 1, by omega⟩
    have h2 := hr.1
    rw [List.drop_eq_nil_of_le (by omega), gov]
    refine ⟨V, I, P, ?_, hA, ho, fun Q' e => Option.some.inj e, frX_r, rfl, rfl, rfl⟩
    apply hd_555_62
    exact ev_b (rdI h2) (ev_t (nI_le (by omega) (by omega)) rfl)
  | succ m ih =>
    intro i K P V I hm hK ho hA hr
    obtain ⟨K, rfl⟩ : ∃ k, K = k + 1 := ⟨K - 1, by omega⟩
    have h2 := hr.1
    have l60 := hA.2.2.2.2
    have hi : i < l.length := by omega
    obtain ⟨n1, n2⟩ := hr.2 i _ (List.getElem?_eq_getElem hi)
    obtain ⟨b1, b2⟩ := hlb _ (List.getElem_mem hi)
    have r1 : am_pA 0 (.ref 248) (nI i) (fx V I L R ++ tl) = some (nI l[i].1) := (qa_248 (show i < 400 by omega)).trans (congrArg some n1)
    have r2 : am_pA 0 (.ref 249) (nI i) (fx V I L R ++ tl) = some (nI l[i].2) := (qa_249 (show i < 400 by omega)).trans (congrArg some n2)
    have hd : l.drop i = l[i] :: l.drop (i + 1) := List.drop_eq_getElem_cons hi
    rw [hd, gov]
    have no : fg_555_114 N (fg_555_62 N K) (.ref 174) (nI b) (nI i) (fx V I L R ++ tl) = fg_555_130 N (.ref 174) (nI b) (bI false) (fx V I L R ++ tl) := by
      obtain ⟨K, rfl⟩ : ∃ k, K = k + 1 := ⟨K - 1, by omega⟩
      apply hd_555_114
      apply hd_555_115
      refine ev_t rfl ?_
      apply hd_555_124
      rw [nI_1]
      apply hd_555_62
      refine ev_b (rdI h2) ?_
      by_cases c : l.length ≤ i + 1
      · exact ev_t (nI_le c (by omega)) rfl
      · exact ev_f (nI_ge (by omega) (by omega)) (ev_t rfl rfl)
    by_cases c : l[i].1 < P.length
    · rw [if_pos c]
      have q1 := r_538 (L := L) (R := R) (tl := tl) (w := l[i].2) hN ho hA c (by omega)
      cases er : ru P l[i].1 l[i].2 with
      | none =>
        rw [er] at q1
        refine ⟨V, I, P, ?_, hA, ho, fun Q' e => absurd e (by simp), frX_r, rfl, rfl, rfl⟩
        apply hd_555_62
        exact ev_b (rdI h2) (ev_f (nI_ge (by omega) (by omega)) (ev_f (by decide) (ev_b (rdR rfl) (ev_b r1 (ev_b (rdI (rA_18 hA)) (ev_f (nI_ge c (by omega)) (ev_b (rdR rfl) (ev_b r1 (ev_b (rdR rfl) (ev_b r2 (ev_i rfl (ev_cI (q1.1 rfl) (ev_t rfl no)))))))))))))
      | some cc =>
        rw [er] at q1
        obtain ⟨o1, o2⟩ := ru_len ho c er
        obtain ⟨W, J, a1, a2, a3⟩ := q1.2 cc rfl (ru_R ho c er)
        obtain ⟨W1, J1, e1, k1, fk1, fu1⟩ := s495 (L := L) (R := R) (tl := tl) hN o1 (by omega) a2
        have u1 := frU3_d a3
        have u2 : frU3 V W1 I J1 := ⟨fu1.1.trans u1.1, fu1.2.1.trans u1.2.1, fu1.2.2.trans u1.2.2⟩
        obtain ⟨W2, J2, Q, z1, z2, z3, z4, z5, z6⟩ := ih (i + 1) K (rp P l[i].1 (rMid P l[i].1 cc)) W1 J1 (by omega) (by omega) o1 k1 (rwR_u u2 hr)
        refine ⟨W2, J2, Q, ?_, z2, z3, z4, frX_t (frX_d a3) (frX_t fk1 z5), z6.1.trans u2.1, z6.2.1.trans u2.2.1, z6.2.2.trans u2.2.2⟩
        apply hd_555_62
        refine ev_b (rdI h2) (ev_f (nI_ge (by omega) (by omega)) (ev_f (by decide) (ev_b (rdR rfl) (ev_b r1 (ev_b (rdI (rA_18 hA)) (ev_f (nI_ge c (by omega)) (ev_b (rdR rfl) (ev_b r1 (ev_b (rdR rfl) (ev_b r2 (ev_i rfl (ev_cI a1 (ev_f (by decide) ?_)))))))))))))
        apply hd_555_115
        refine ev_f (by decide) (ev_i rfl (ev_cV e1 ?_))
        apply hd_555_124
        rw [nI_1]
        exact z1
    · rw [if_neg c]
      refine ⟨V, I, P, ?_, hA, ho, fun Q' e => absurd e (by simp), frX_r, rfl, rfl, rfl⟩
      apply hd_555_62
      exact ev_b (rdI h2) (ev_f (nI_ge (by omega) (by omega)) (ev_f (by decide) (ev_b (rdR rfl) (ev_b r1 (ev_b (rdI (rA_18 hA)) (ev_t (nI_le (by omega) (by omega)) no))))))
theorem laySV {Q : xT} : lay2 (fun k => nI (xS Q k)) (fun k => xV Q k) (tI Q) := by
  intro k x hx
  have hk : k < Q.length := by
    have := (List.getElem?_eq_some_iff.mp hx).1
    rw [tI_len] at this
    exact this
  rw [tI_at hk] at hx
  have e := Option.some.inj hx
  rw [← e]
  exact ⟨rfl, rfl⟩
theorem lay_SV {Q : xT} {s v : Nat → Int32} (h : lay2 s v (tI Q)) {k : Nat} (hk : k < Q.length) : s k = nI (xS Q k) ∧ v k = xV Q k := h k _ (tI_at hk)
/-- what is kept when trees are made simple, and rows stay -/
theorem keep_Z {V W : Nat → Nat → Value} {I J : Nat → Nat → Int32} {A : Nat} (hA : A = 167 ∨ A = 169) (f : frZ A V W I J) (u : frU2 V W I J) : keep V W I J := by
  refine ⟨fun a j hj => ?_, fun y hy => ?_, f.2.2⟩
  · by_cases c : a = 118
    · rw [c] at hj ⊢
      have key : ∀ j, j ∈ vRel 118 → j = 2 := by decide
      rw [key j hj]
      exact u.1
    · refine f.1 a j (fun e => ?_) (fun e => ?_) c (fun e => ?_)
      · rcases hA with h | h
        · rw [e, h] at hj; exact absurd hj (by simp [vRel])
        · rw [e, h] at hj; exact absurd hj (by simp [vRel])
      · rw [e] at hj; exact absurd hj (by simp [vRel])
      · rw [e.1] at hj; exact absurd hj (by simp [vRel])
  · by_cases c : y = 119
    · rw [c]; exact u.2.1
    · by_cases d : y = 120
      · rw [d]; exact u.2.2
      · have key : ∀ y, y ∈ iRel → y ≠ 168 ∧ y ≠ 170 ∧ y ≠ 130 ∧ y ≠ 122 := by decide
        obtain ⟨g1, g2, g3, g4⟩ := key y hy
        exact f.2.1 y (by rcases hA with h | h <;> omega) g3 g4 c d
theorem keep_1 {C : Nat} {V W : Nat → Nat → Value} {I J : Nat → Nat → Int32} (hC : vRel C = [] ∧ ¬ (C + 1) ∈ iRel) (f : fr1 C V W I J) : keep V W I J := ⟨fun a j hj => f.1 a j (fun e => by rw [e, hC.1] at hj; exact absurd hj (by simp)), fun y hy => f.2.1 y (fun e => hC.2 (e ▸ hy)), f.2.2⟩
theorem keep_X {V W : Nat → Nat → Value} {I J : Nat → Nat → Int32} (f : frX V W I J) (u : frU3 V W I J) : keep V W I J := by
  refine ⟨fun a j hj => ?_, fun y hy => ?_, f.2.2⟩
  · by_cases c : a = 174 ∧ j = 115
    · rw [c.1, c.2]; exact u.1
    · refine f.1 a j (fun e => ?_)
      have key : ∀ j, j ∈ vRel 174 → j ≠ 13 ∧ j ≠ 14 ∧ j ≠ 15 ∧ j ≠ 18 ∧ j ≠ 19 ∧ j ≠ 20 := by decide
      have := key j (e.1 ▸ hj)
      have h2 := e.2
      have h3 : j ≠ 115 := fun h => c ⟨e.1, h⟩
      omega
  · by_cases c : y = 248
    · rw [c]; exact u.2.1
    · by_cases d : y = 249
      · rw [d]; exact u.2.2
      · have key : ∀ y, y ∈ iRel → y ≠ 186 ∧ y ≠ 187 ∧ y ≠ 188 ∧ y ≠ 189 ∧ y ≠ 192 := by decide
        obtain ⟨g1, g2, g3, g4, g5⟩ := key y hy
        exact f.2.1 y g1 g2 g3 g4 g5 c d
/-- the rows that both sides keep, as one list -/
theorem rows_of {V : Nat → Nat → Value} {I : Nat → Nat → Int32} {L : Nat → Nat → Int64} {R : Nat → Nat → Option Nat} {tl : am_H} {n p : Nat} (hr : rel V I L R tl n p) : ∃ l : List (Nat × Nat), l.length ≤ 60 ∧ (∀ x, x ∈ l → x.1 < 60 ∧ x.2 < 9) ∧ rwZ V I l ∧ rwR V I l := by
  obtain ⟨-, -, -, -, -, -, -, -, -, ⟨m, m1, m2, m3, m4⟩, -⟩ := hr
  have ch : ∀ k, k < m → ∃ x : Nat × Nat, x.1 < 60 ∧ x.2 < 9 ∧ I 119 k = nI x.1 ∧ I 120 k = nI x.2 := fun k hk => by
    obtain ⟨-, -, ⟨a, a1, a2⟩, ⟨c, c1, c2⟩⟩ := m4 k hk
    exact ⟨(a, c), a1, by show c < 9; omega, a2, c2⟩
  have key : ∀ q, q ≤ m → ∃ l : List (Nat × Nat), l.length = q ∧ (∀ x, x ∈ l → x.1 < 60 ∧ x.2 < 9) ∧ ∀ i x, l[i]? = some x → I 119 i = nI x.1 ∧ I 120 i = nI x.2 := by
    intro q
    induction q with
    | zero => intro _; exact ⟨[], rfl, fun x hx => absurd hx (by simp), fun i x hx => absurd hx (by simp)⟩
    | succ q ih =>
      intro hq
      obtain ⟨l, l1, l2, l3⟩ := ih (by omega)
      obtain ⟨x, x1, x2, x3, x4⟩ := ch q (by omega)
      refine ⟨l ++ [x], by rw [List.length_append, l1]; rfl, fun y hy => ?_, fun i y hy => ?_⟩
      · rw [List.mem_append, List.mem_singleton] at hy
        rcases hy with hy | rfl
        · exact l2 y hy
        · exact ⟨x1, x2⟩
      · by_cases c : i < l.length
        · rw [List.getElem?_append_left c] at hy
          exact l3 i y hy
        · rw [List.getElem?_append_right (by omega)] at hy
          by_cases d : i = l.length
          · subst d
            rw [Nat.sub_self, List.getElem?_cons_zero] at hy
            have e := Option.some.inj hy
            rw [← e, l1]
            exact ⟨x3, x4⟩
          · rw [show i - l.length = (i - l.length - 1) + 1 by omega, List.getElem?_cons_succ] at hy
            exact absurd hy (by simp)
  obtain ⟨l, l1, l2, l3⟩ := key m (Nat.le_refl _)
  refine ⟨l, by omega, l2, ⟨by rw [l1]; exact m2, l3⟩, by rw [l1]; exact m3, fun i x hx => ?_⟩
  have hi : i < l.length := (List.getElem?_eq_some_iff.mp hx).1
  obtain ⟨y1, y2, -, -⟩ := m4 i (by omega)
  rw [← y1, ← y2]
  exact l3 i x hx
