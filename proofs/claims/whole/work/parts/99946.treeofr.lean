/-! ===== trees out of code: the reference's treeOf ===== -/
def vT (T : xT) : Prop := ∀ x, x ∈ T → (x.1 = 0 → two x.2) ∧ (x.1 ≠ 0 → x.2 = 0)
theorem vT_c {a : Nat} {b : Int32} {T : xT} (h : (a = 0 → two b) ∧ (a ≠ 0 → b = 0)) (g : vT T) : vT ((a, b) :: T) := fun x hx => by
  cases hx with
  | head => exact h
  | tail _ hx => exact g x hx
theorem vT_a {A B : xT} (h : vT A) (g : vT B) : vT (A ++ B) := fun x hx => by
  rcases List.mem_append.mp hx with e | e
  · exact h x e
  · exact g x e
theorem vT_n : vT [] := fun x hx => by cases hx
theorem two_0 : two 0 := .inl ⟨0, by omega, rfl⟩
theorem two_1 : two 1 := .inl ⟨1, by omega, rfl⟩
theorem vT_w {T : xT} (h : vT T) : vT (wrT T) := by
  unfold wrT
  split
  · exact h
  · exact vT_c ⟨fun e => absurd e (by decide), fun _ => rfl⟩ (vT_a h (vT_c ⟨fun _ => two_1, fun e => absurd rfl e⟩ (vT_c ⟨fun _ => two_0, fun e => absurd rfl e⟩ vT_n)))
theorem stp_f {x : Nat} {v : Int32} {st st' : List xT} (h : stpT x v st st') (h0 : x = 0 → two v) (h1 : x ≠ 0 → v = 0) (hv : ∀ T, T ∈ st → vT T) : (∀ T, T ∈ st' → vT T) ∧ st'.length = st.length - tkN x + ptN x := by
  unfold tkN ptN
  rcases h with ⟨a, b⟩ | ⟨a, a', T, r, b, c, d⟩ | ⟨a, a', T, S, r, b, c, d⟩ | ⟨a, T, r, b, d⟩ | ⟨a, T, S, r, b, c, d⟩ | ⟨a, T, r, b, c, d⟩
  · subst b
    rw [if_pos a, if_pos (by omega)]
    refine ⟨fun T hT => ?_, rfl⟩
    cases hT with
    | head => exact vT_c ⟨h0, h1⟩ vT_n
    | tail _ hT => exact hv T hT
  · subst b
    subst d
    rw [if_neg (by omega), if_pos a', if_pos (by omega)]
    refine ⟨fun Q hT => ?_, rfl⟩
    cases hT with
    | head => exact vT_c ⟨fun e => absurd e (by omega), fun _ => rfl⟩ (vT_w (hv _ (List.mem_cons_self ..)))
    | tail _ hT => exact hv Q (List.mem_cons_of_mem _ hT)
  · subst b
    subst d
    rw [if_neg (by omega), if_neg (by omega), if_pos a', if_pos (by omega)]
    refine ⟨fun Q hT => ?_, rfl⟩
    cases hT with
    | head => exact vT_c ⟨fun e => absurd e (by omega), fun _ => rfl⟩ (vT_a (vT_w (hv _ (List.mem_cons_of_mem _ (List.mem_cons_self ..)))) (vT_w (hv _ (List.mem_cons_self ..))))
    | tail _ hT => exact hv Q (List.mem_cons_of_mem _ (List.mem_cons_of_mem _ hT))
  · subst b
    subst d
    subst a
    refine ⟨fun Q hT => ?_, rfl⟩
    cases hT with
    | head => exact hv _ (List.mem_cons_self ..)
    | tail _ hT => exact hv Q hT
  · subst b
    subst d
    subst a
    refine ⟨fun Q hT => ?_, rfl⟩
    cases hT with
    | head => exact hv _ (List.mem_cons_of_mem _ (List.mem_cons_self ..))
    | tail _ hT => cases hT with
      | head => exact hv _ (List.mem_cons_self ..)
      | tail _ hT => exact hv Q (List.mem_cons_of_mem _ (List.mem_cons_of_mem _ hT))
  · subst b
    subst d
    subst a
    exact ⟨fun Q hT => hv Q (List.mem_cons_of_mem _ hT), rfl⟩
theorem s558 {V : Nat → Nat → Value} {I : Nat → Nat → Int32} {L : Nat → Nat → Int64} {R : Nat → Nat → Option Nat} {tl : am_H} {N x : Nat} {v : Int32} {st : List xT} (hN : 400 < N) (h : hSt V I st) (hx : x < 17) (h1 : tkN x ≤ st.length) (h2 : st.length - tkN x + ptN x ≤ 8) (h8 : st.length ≤ 8) : outT L R tl V I x v st (fm_558 N (.ref 174) (nI x) v (fx V I L R ++ tl)) := by
  unfold tkN at h1 h2
  unfold ptN at h2
  rcases (by omega : x < 5 ∨ (5 ≤ x ∧ x < 7) ∨ (7 ≤ x ∧ x < 14) ∨ x = 14 ∨ x = 15 ∨ x = 16) with c | c | c | c | c | c
  · rw [if_pos c, if_pos (by omega)] at h2
    exact i558_0 hN h c (by omega)
  · rw [if_neg (by omega), if_pos c.2] at h1
    exact i558_5 hN h c h8 h1
  · rw [if_neg (by omega), if_neg (by omega), if_pos c.2] at h1
    exact i558_7 hN h c h8 h1
  · subst c
    have h1 : 1 ≤ st.length := h1
    have h2 : st.length - 1 + 2 ≤ 8 := h2
    exact i558_14 hN h rfl (by omega) h1
  · subst c
    exact i558_15 hN h rfl h8 h1
  · subst c
    exact i558_16 hN h rfl h8 h1
def rnT : xT → List xT → List xT → Prop
  | [], st, st' => st' = st
  | c :: cs, st, st' => ∃ s1, stpT c.1 c.2 st s1 ∧ rnT cs s1 st'
/-- the tree of code -/
def tOf (C Q : xT) : Prop := ∃ S, rnT C [] [S] ∧ Q = wrT S ∧ okV Q
def sndC (C : xT) : Prop := ∃ ht : Nat → Nat, ht 0 = 0 ∧ ht C.length = 1 ∧ ∀ k, k < C.length → xS C k ≤ 18 ∧ (xS C k = 0 → two (xV C k)) ∧ (xS C k ≠ 0 → xS C k < 17 → xV C k = 0) ∧ tkN (xS C k) ≤ ht k ∧ ht k - tkN (xS C k) + ptN (xS C k) ≤ 8 ∧ (xS C k ≠ 17 → ht (k + 1) = ht k - tkN (xS C k) + ptN (xS C k))
def frTr (V W : Nat → Nat → Value) (I J : Nat → Nat → Int32) : Prop := (∀ a j, ¬ (a = 174 ∧ (j = 13 ∨ j = 14 ∨ j = 15 ∨ j = 18 ∨ j = 19 ∨ j = 20 ∨ j = 121)) → W a j = V a j) ∧ (∀ y, y ≠ 186 → y ≠ 187 → y ≠ 188 → y ≠ 189 → y ≠ 192 → y ≠ 194 → y ≠ 195 → y ≠ 196 → y ≠ 250 → y ≠ 251 → y ≠ 252 → J y = I y) ∧ (wt V → wt W)
theorem frTr_t {V W X : Nat → Nat → Value} {I J K : Nat → Nat → Int32} (h : frTr V W I J) (g : frTr W X J K) : frTr V X I K := ⟨fun a j n => (g.1 a j n).trans (h.1 a j n), fun y a b c d e f i j k l m => (g.2.1 y a b c d e f i j k l m).trans (h.2.1 y a b c d e f i j k l m), fun w => g.2.2 (h.2.2 w)⟩
theorem frTr_o {V W : Nat → Nat → Value} {I J : Nat → Nat → Int32} (h : frTo V W I J) : frTr V W I J := ⟨fun a j n => h.1 a j (fun e => n ⟨e.1, by have := e.2; omega⟩), fun y a b _ _ _ f i j k l m => h.2.1 y a b f i j k l m, h.2.2⟩
theorem frTr_x {V W : Nat → Nat → Value} {I J : Nat → Nat → Int32} (h : frX V W I J) (u : frU3 V W I J) : frTr V W I J := by
  refine ⟨fun a j n => ?_, fun y a b c d e _ _ _ _ _ _ => ?_, h.2.2⟩
  · by_cases c : a = 174 ∧ j = 115
    · rw [c.1, c.2]; exact u.1
    · refine h.1 a j (fun e => ?_)
      rcases e.2 with r | r | r | r | r | r | r
      · exact n ⟨e.1, by omega⟩
      · exact n ⟨e.1, by omega⟩
      · exact n ⟨e.1, by omega⟩
      · exact n ⟨e.1, by omega⟩
      · exact n ⟨e.1, by omega⟩
      · exact n ⟨e.1, by omega⟩
      · exact c ⟨e.1, r⟩
  · by_cases c1 : y = 248
    · rw [c1]; exact u.2.1
    · by_cases c2 : y = 249
      · rw [c2]; exact u.2.2
      · exact h.2.1 y a b c d e c1 c2
set_option maxRecDepth 100000 in
set_option maxHeartbeats 4000000 in
theorem f557 {V : Nat → Nat → Value} {I : Nat → Nat → Int32} {L : Nat → Nat → Int64} {R : Nat → Nat → Option Nat} {tl : am_H} {N : Nat} {S : xT} (hN : 400 < N) (h : hSt V I [S]) (hv : vT S) : ∃ W J b, fg_557_82 N (.ref 174) 1 (fx V I L R ++ tl) = some (.inl (some (.int (bI b)), fx W J L R ++ tl)) ∧ (b = true ↔ okV (wrT S)) ∧ (b = true → rA W J 0 (wrT S)) ∧ frTr V W I J := by
  obtain ⟨h1, h2, h3⟩ := h
  obtain ⟨t1, -⟩ := lvR_t h2
  have hS := h3 S (List.mem_cons_self ..)
  obtain ⟨i1, i2, i3⟩ := okV_i hS
  obtain ⟨w1, w2, w3, w4, w5⟩ := wrT_i i1 i2 (k20_l.mp i3)
  have t60 := hS.1
  obtain ⟨J1, e1, p1, f1⟩ := h561 (V := V) (L := L) (R := R) (tl := tl) (q := 0) hN (by omega) t1 i2 (i3 0 i2) 0 rfl
  have el : wrTl S = wrT S := by unfold wrTl; rw [if_pos (by omega)]
  rw [el] at p1
  obtain ⟨W2, J2, b, e2, g2, d2, z2, f2⟩ := h563 (V := V) (L := L) (R := R) (tl := tl) (q := 0) hN (by omega) p1 w2 (k20_l.mpr w3) w1 0 rfl
  have F := frTr_o (frTo_t (frTo_h (V := V) f1) (frTo_c f2))
  cases b with
  | false =>
    refine ⟨W2, J2, false, ?_, g2, fun e => Bool.noConfusion e, F⟩
    apply hd_557_82
    exact ev_t (by decide) (ev_i rfl (ev_cV e1 (ev_i rfl (ev_cI e2 (ev_f (fun h => h rfl) rfl)))))
  | true =>
    have ok := g2.mp rfl
    have okp : okP (wrT S) := by
      refine ⟨?_, vT_w hv⟩
      have := ok.2
      rw [w4] at this
      exact this
    obtain ⟨W3, J3, e3, A3, x3, u3⟩ := s495 (V := vup W2 174 15 (.int 0)) (I := J2) (L := L) (R := R) (tl := tl) (nt := 0) hN okp ok.1 ⟨z2, rfl, d2.1, d2.2⟩
    refine ⟨W3, J3, true, ?_, g2, fun _ => A3, frTr_t F (frTr_t ⟨fun a j n => vup_o (fun e => n ⟨e.1, .inr (.inr (.inl e.2))⟩), fun _ _ _ _ _ _ _ _ _ _ _ _ => rfl, fun w => wt_i w (by decide)⟩ (frTr_x x3 u3))⟩
    apply hd_557_82
    exact ev_t (by decide) (ev_i rfl (ev_cV e1 (ev_i rfl (ev_cI e2 (ev_t (by decide) (ev_b qp_174_15 (ev_i rfl (ev_cV e3 rfl))))))))
set_option maxRecDepth 100000 in
set_option maxHeartbeats 4000000 in
theorem l557 {L : Nat → Nat → Int64} {R : Nat → Nat → Option Nat} {tl : am_H} {N : Nat} {C : xT} {ht : Nat → Nat} (hN : 400 < N) (hC : C.length ≤ 60) (hz : ht C.length = 1) (hh : ∀ k, k < C.length → xS C k ≤ 18 ∧ (xS C k = 0 → two (xV C k)) ∧ (xS C k ≠ 0 → xS C k < 17 → xV C k = 0) ∧ tkN (xS C k) ≤ ht k ∧ ht k - tkN (xS C k) + ptN (xS C k) ≤ 8 ∧ (xS C k ≠ 17 → ht (k + 1) = ht k - tkN (xS C k) + ptN (xS C k))) : ∀ (m k K : Nat) (V : Nat → Nat → Value) (I : Nat → Nat → Int32) (st : List xT), k + m = C.length → m + 1 < K → dsA V I (tI C) → hSt V I st → st.length = ht k → st.length ≤ 8 → (∀ T, T ∈ st → vT T) → ∃ W J b, fg_557_28 N K (.ref 174) 1 (nI k) (fx V I L R ++ tl) = some (.inl (some (.int (bI b)), fx W J L R ++ tl)) ∧ (b = true ↔ ∃ S, rnT (C.drop k) st [S] ∧ okV (wrT S)) ∧ (b = true → ∃ S, rnT (C.drop k) st [S] ∧ okV (wrT S) ∧ rA W J 0 (wrT S)) ∧ frTr V W I J := by
  intro m
  induction m with
  | zero =>
    intro k K V I st hm hK hd hs hl h8 hv
    obtain ⟨K, rfl⟩ : ∃ k, K = k + 1 := ⟨K - 1, by omega⟩
    have h18 := hd.1
    rw [tI_len] at h18
    rw [Nat.add_zero] at hm
    subst hm
    rw [hz] at hl
    rw [List.drop_length]
    cases st with
    | nil => exact absurd hl (by show ¬ 0 = 1; omega)
    | cons S r => cases r with
      | cons S' r => exact absurd hl (by show ¬ r.length + 1 + 1 = 1; omega)
      | nil =>
        obtain ⟨W, J, b, e, g, a, f⟩ := f557 (L := L) (R := R) (tl := tl) hN hs (hv S (List.mem_cons_self ..))
        refine ⟨W, J, b, ?_, ⟨fun e => ⟨S, rfl, g.mp e⟩, fun ⟨S', e1, e2⟩ => ?_⟩, fun e => ⟨S, rfl, g.mp e, a e⟩, f⟩
        · apply hd_557_28
          exact ev_b (rdI h18) (ev_t (nI_le (by omega) (by omega)) e)
        · have e1 : [S'] = [S] := e1
          injection e1 with e1 _
          rw [e1] at e2
          exact g.mpr e2
  | succ m ih =>
    intro k K V I st hm hK hd hs hl h8 hv
    obtain ⟨K, rfl⟩ : ∃ k, K = k + 1 := ⟨K - 1, by omega⟩
    have h18 := hd.1
    rw [tI_len] at h18
    have hk : k < C.length := by omega
    obtain ⟨a1, a2, a3, a4, a5, a6⟩ := hh k hk
    obtain ⟨s1, s2⟩ := hd.2 k _ (tI_at hk)
    have r1 : am_pA 0 (.ref 188) (nI k) (fx V I L R ++ tl) = some (nI (xS C k)) := (qa_188 (by omega)).trans (congrArg some s1)
    have r2 : am_pA 0 (.ref 189) (nI k) (fx V I L R ++ tl) = some (xV C k) := (qa_189 (by omega)).trans (congrArg some s2)
    have dr : C.drop k = (xS C k, xV C k) :: C.drop (k + 1) := by
      rw [List.drop_eq_getElem_cons hk]
      have := xS_at hk
      rw [List.getElem?_eq_getElem hk] at this
      rw [Option.some.inj this]
    have bad : ∀ (W : Nat → Nat → Value) (J : Nat → Nat → Int32), W 174 18 = .int (nI C.length) → fg_557_74 N (fg_557_28 N K) (.ref 174) (nI k) (fx W J L R ++ tl) = some (.inl (some (.int 0), fx W J L R ++ tl)) := fun W J hW => by
      obtain ⟨K, rfl⟩ : ∃ k, K = k + 1 := ⟨K - 1, by omega⟩
      apply hd_557_74
      apply hd_557_75
      rw [nI_1]
      have fin : fg_557_82 N (.ref 174) 0 (fx W J L R ++ tl) = some (.inl (some (.int 0), fx W J L R ++ tl)) := by
        apply hd_557_82
        exact ev_f (fun h => h rfl) rfl
      apply hd_557_28
      by_cases c : C.length ≤ k + 1
      · exact ev_b (rdI hW) (ev_t (nI_le c (by omega)) fin)
      · exact ev_b (rdI hW) (ev_f (nI_ge (by omega) (by omega)) (ev_t rfl fin))
    rw [dr]
    by_cases c17 : xS C k < 17
    case neg =>
      refine ⟨V, I, false, ?_, ⟨fun e => Bool.noConfusion e, fun ⟨S, ⟨s1, e1, _⟩, _⟩ => ?_⟩, fun e => Bool.noConfusion e, frTr_o frTo_r⟩
      · apply hd_557_28
        exact ev_b (rdI h18) (ev_f (nI_ge hk (by omega)) (ev_f (by decide) (ev_b (rdR rfl) (ev_b r1 (ev_t (nI_le (a := 17) (by omega) (by omega)) (bad V I h18))))))
      · have e1 : stpT (xS C k) (xV C k) st s1 := e1
        rcases e1 with h | h | h | h | h | h
        · exact absurd h.1 (by omega)
        · exact absurd h.2.1 (by omega)
        · exact absurd h.2.1 (by omega)
        · exact absurd h.1 (by omega)
        · exact absurd h.1 (by omega)
        · exact absurd h.1 (by omega)
    have hv1 : xS C k ≠ 0 → xV C k = 0 := fun h => a3 h c17
    obtain ⟨W, J, f, ho⟩ := s558 (L := L) (R := R) (tl := tl) (v := xV C k) hN hs c17 (by omega) (by omega) h8
    have dW : dsA W J (tI C) := ⟨(f.1 174 18 (by decide)).trans hd.1, by rw [f.2.1 188 (by decide) (by decide) (by decide) (by decide) (by decide) (by decide) (by decide) (by decide), f.2.1 189 (by decide) (by decide) (by decide) (by decide) (by decide) (by decide) (by decide) (by decide)]; exact hd.2⟩
    have st0 : ∀ (v19 : Int32) (o : Option am_O), fm_558 N (.ref 174) (nI (xS C k)) (xV C k) (fx V I L R ++ tl) = some (.inl (some (.int v19), fx W J L R ++ tl)) → (if v19 = 0 then (fg_557_74 N (fg_557_28 N K) (.ref 174) (nI k) (fx W J L R ++ tl)) else (fg_557_75 N (fg_557_28 N K) (.ref 174) (nI k) 1 (fx W J L R ++ tl))) = o → fg_557_28 N (K + 1) (.ref 174) 1 (nI k) (fx V I L R ++ tl) = o := fun v19 o e k_ => by
      apply hd_557_28
      exact ev_b (rdI h18) (ev_f (nI_ge hk (by omega)) (ev_f (by decide) (ev_b (rdR rfl) (ev_b r1 (ev_f (nI_ge (b := 17) c17 (by decide)) (ev_b (rdR rfl) (ev_b r1 (ev_b (rdR rfl) (ev_b r2 (ev_i rfl (ev_cI e k_)))))))))))
    rcases ho with ⟨st', e, hst, hs'⟩ | ⟨e, hn⟩
    · obtain ⟨v', l'⟩ := stp_f hst a2 hv1 hv
      obtain ⟨W2, J2, b, e2, g2, q2, f2⟩ := ih (k + 1) K W J st' (by omega) (by omega) dW hs' (by rw [l', hl]; exact (a6 (by omega)).symm) (by rw [l', hl]; exact a5) v'
      have det : ∀ s1, stpT (xS C k) (xV C k) st s1 → s1 = st' := fun s1 h => by
        have p := stp_no h
        have q := stp_no hst
        rcases (by omega : xS C k < 5 ∨ (5 ≤ xS C k ∧ xS C k < 7) ∨ (7 ≤ xS C k ∧ xS C k < 14) ∨ xS C k = 14 ∨ xS C k = 15 ∨ xS C k = 16) with c | c | c | c | c | c
        · rw [p.1 c, q.1 c]
        · obtain ⟨T, r, b1, _, b3⟩ := p.2.1 c.1 c.2
          obtain ⟨T', r', c1, _, c3⟩ := q.2.1 c.1 c.2
          rw [b1] at c1
          injection c1 with c1 c2
          rw [b3, c3, c1, c2]
        · obtain ⟨T, S, r, b1, _, b3⟩ := p.2.2.1 c.1 c.2
          obtain ⟨T', S', r', c1, _, c3⟩ := q.2.2.1 c.1 c.2
          rw [b1] at c1
          injection c1 with c1 c2
          injection c2 with c2 c4
          rw [b3, c3, c1, c2, c4]
        · obtain ⟨T, r, b1, b3⟩ := p.2.2.2.1 c
          obtain ⟨T', r', c1, c3⟩ := q.2.2.2.1 c
          rw [b1] at c1
          injection c1 with c1 c2
          rw [b3, c3, c1, c2]
        · obtain ⟨T, S, r, b1, _, b3⟩ := p.2.2.2.2.1 c
          obtain ⟨T', S', r', c1, _, c3⟩ := q.2.2.2.2.1 c
          rw [b1] at c1
          injection c1 with c1 c2
          injection c2 with c2 c4
          rw [b3, c3, c1, c2, c4]
        · obtain ⟨T, r, b1, _, b3⟩ := p.2.2.2.2.2 c
          obtain ⟨T', r', c1, _, c3⟩ := q.2.2.2.2.2 c
          rw [b1] at c1
          injection c1 with c1 c2
          rw [b3, c3, c2]
      refine ⟨W2, J2, b, st0 1 _ e (ev_f (by decide) ?_), ⟨fun e => ?_, fun ⟨S, ⟨s1, x1, x2⟩, x3⟩ => g2.mpr ⟨S, by rw [← det s1 x1]; exact x2, x3⟩⟩, fun e => ?_, frTr_t (frTr_o f) f2⟩
      · apply hd_557_75
        rw [nI_1]
        exact e2
      · obtain ⟨S, y1, y2⟩ := g2.mp e
        exact ⟨S, ⟨st', hst, y1⟩, y2⟩
      · obtain ⟨S, y1, y2⟩ := q2 e
        exact ⟨S, ⟨st', hst, y1⟩, y2⟩
    · refine ⟨W, J, false, st0 0 _ e (ev_t rfl (bad W J ((f.1 174 18 (by decide)).trans h18))), ⟨fun e => Bool.noConfusion e, fun ⟨S, ⟨s1, e1, _⟩, _⟩ => absurd e1 (hn s1)⟩, fun e => Bool.noConfusion e, frTr_o f⟩
/-- the reference's treeOf, for code -/
theorem s557 {V : Nat → Nat → Value} {I : Nat → Nat → Int32} {L : Nat → Nat → Int64} {R : Nat → Nat → Option Nat} {tl : am_H} {N : Nat} {C : xT} (hN : 400 < N) (hC : C.length ≤ 60) (hc : sndC C) (hk : V 174 20 = .int 1) (hd : dsA V I (tI C)) : ∃ W J b, fm_557 N (.ref 174) (fx V I L R ++ tl) = some (.inl (some (.int (bI b)), fx W J L R ++ tl)) ∧ (b = true ↔ ∃ Q, tOf C Q) ∧ (b = true → ∃ Q, tOf C Q ∧ rA W J 0 Q) ∧ frTr V W I J := by
  obtain ⟨ht, h0, hz, hh⟩ := hc
  obtain ⟨W, J, b, e, g, q, f⟩ := l557 (L := L) (R := R) (tl := tl) hN hC hz hh C.length 0 N (vup V 174 121 (.int 0)) I [] (by omega) (by omega) hd ⟨rfl, fun i T e => absurd e (by simp), fun T hT => by cases hT⟩ h0.symm (by show 0 ≤ 8; omega) (fun T hT => by cases hT)
  rw [List.drop_zero] at g q
  refine ⟨W, J, b, ?_, ⟨fun e => ?_, fun ⟨Q, S, x1, x2, x3⟩ => g.mpr ⟨S, x1, by rw [← x2]; exact x3⟩⟩, fun e => ?_, frTr_t (frTr_o fr121) f⟩
  · apply hm_557
    apply hd_557_0
    exact ev_b (rdI hk) (ev_t (by decide) (ev_b (rdI hk) (ev_t rfl (ev_b qp_174_121 e))))
  · obtain ⟨S, y1, y2⟩ := g.mp e
    exact ⟨wrT S, S, y1, rfl, y2⟩
  · obtain ⟨S, y1, y2⟩ := q e
    exact ⟨wrT S, ⟨S, y1, rfl, y2.1⟩, y2.2⟩
