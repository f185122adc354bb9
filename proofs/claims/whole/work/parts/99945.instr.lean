/-! ===== trees out of code: one instruction, in the reference ===== -/
/-- what an instruction makes of a heap of trees -/
def stpT (x : Nat) (v : Int32) (st st' : List xT) : Prop := (x < 5 ∧ st' = [(x, v)] :: st) ∨ (5 ≤ x ∧ x < 7 ∧ ∃ T r, st = T :: r ∧ okV (jn1 (x + 2) T) ∧ st' = jn1 (x + 2) T :: r) ∨ (7 ≤ x ∧ x < 14 ∧ ∃ T S r, st = T :: S :: r ∧ okV (jn2 (x + 3) S T) ∧ st' = jn2 (x + 3) S T :: r) ∨ (x = 14 ∧ ∃ T r, st = T :: r ∧ st' = T :: T :: r) ∨ (x = 15 ∧ ∃ T S r, st = T :: S :: r ∧ (nfT T ∨ nfT S) ∧ st' = S :: T :: r) ∨ (x = 16 ∧ ∃ T r, st = T :: r ∧ nfT T ∧ st' = r)
def lvR (I : Nat → Nat → Int32) (st : List xT) : Prop := ∀ i T, st.reverse[i]? = some T → hpL I i T
def hSt (V : Nat → Nat → Value) (I : Nat → Nat → Int32) (st : List xT) : Prop := V 174 121 = .int (nI st.length) ∧ lvR I st ∧ ∀ T, T ∈ st → okV T
theorem lvR_t {I : Nat → Nat → Int32} {T : xT} {r : List xT} (h : lvR I (T :: r)) : hpL I r.length T ∧ lvR I r := by
  refine ⟨h _ T ?_, fun i S e => h i S ?_⟩
  · rw [List.reverse_cons, List.getElem?_append_right (by rw [List.length_reverse]; omega), List.length_reverse, Nat.sub_self]
    rfl
  · have hi := (List.getElem?_eq_some_iff.mp e).1
    rw [List.reverse_cons, List.getElem?_append_left hi]
    exact e
theorem lvR_p {I : Nat → Nat → Int32} {T : xT} {r : List xT} (h : hpL I r.length T) (g : lvR I r) : lvR I (T :: r) := fun i S e => by
  rw [List.reverse_cons] at e
  by_cases q : i < r.length
  · rw [List.getElem?_append_left (by rw [List.length_reverse]; exact q)] at e
    exact g i S e
  · rw [List.getElem?_append_right (by rw [List.length_reverse]; omega), List.length_reverse] at e
    by_cases q2 : i = r.length
    · subst q2
      rw [Nat.sub_self, List.getElem?_cons_zero] at e
      rw [← Option.some.inj e]
      exact h
    · rw [show i - r.length = (i - r.length - 1) + 1 by omega, List.getElem?_cons_succ] at e
      exact absurd e (by simp)
theorem lvR_m {I J : Nat → Nat → Int32} {r : List xT} (g : lvR I r) (f : ∀ i T, i < r.length → hpL I i T → hpL J i T) : lvR J r := fun i T e => f i T (by have := (List.getElem?_eq_some_iff.mp e).1; rw [List.length_reverse] at this; exact this) (g i T e)
def outT (L : Nat → Nat → Int64) (R : Nat → Nat → Option Nat) (tl : am_H) (V : Nat → Nat → Value) (I : Nat → Nat → Int32) (x : Nat) (v : Int32) (st : List xT) (o : Option am_O) : Prop := ∃ W J, frTo V W I J ∧ ((∃ st', o = some (.inl (some (.int 1), fx W J L R ++ tl)) ∧ stpT x v st st' ∧ hSt W J st') ∨ (o = some (.inl (some (.int 0), fx W J L R ++ tl)) ∧ ∀ st', ¬ stpT x v st st'))
theorem stp_no {x : Nat} {v : Int32} {st st' : List xT} (h : stpT x v st st') : (x < 5 → st' = [(x, v)] :: st) ∧ (5 ≤ x → x < 7 → ∃ T r, st = T :: r ∧ okV (jn1 (x + 2) T) ∧ st' = jn1 (x + 2) T :: r) ∧ (7 ≤ x → x < 14 → ∃ T S r, st = T :: S :: r ∧ okV (jn2 (x + 3) S T) ∧ st' = jn2 (x + 3) S T :: r) ∧ (x = 14 → ∃ T r, st = T :: r ∧ st' = T :: T :: r) ∧ (x = 15 → ∃ T S r, st = T :: S :: r ∧ (nfT T ∨ nfT S) ∧ st' = S :: T :: r) ∧ (x = 16 → ∃ T r, st = T :: r ∧ nfT T ∧ st' = r) := by
  rcases h with h | h | h | h | h | h
  · exact ⟨fun _ => h.2, fun a b => absurd h.1 (by omega), fun a b => absurd h.1 (by omega), fun a => absurd h.1 (by omega), fun a => absurd h.1 (by omega), fun a => absurd h.1 (by omega)⟩
  · exact ⟨fun a => absurd h.1 (by omega), fun a b => h.2.2, fun a b => absurd h.2.1 (by omega), fun a => absurd h.2.1 (by omega), fun a => absurd h.2.1 (by omega), fun a => absurd h.2.1 (by omega)⟩
  · exact ⟨fun a => absurd h.1 (by omega), fun a b => absurd h.1 (by omega), fun a b => h.2.2, fun a => absurd h.2.1 (by omega), fun a => absurd h.2.1 (by omega), fun a => absurd h.2.1 (by omega)⟩
  · exact ⟨fun a => absurd h.1 (by omega), fun a b => absurd h.1 (by omega), fun a b => absurd h.1 (by omega), fun a => h.2, fun a => absurd h.1 (by omega), fun a => absurd h.1 (by omega)⟩
  · exact ⟨fun a => absurd h.1 (by omega), fun a b => absurd h.1 (by omega), fun a b => absurd h.1 (by omega), fun a => absurd h.1 (by omega), fun a => h.2, fun a => absurd h.1 (by omega)⟩
  · exact ⟨fun a => absurd h.1 (by omega), fun a b => absurd h.1 (by omega), fun a b => absurd h.1 (by omega), fun a => absurd h.1 (by omega), fun a => absurd h.1 (by omega), fun a => h.2⟩
theorem okV_1 {x : Nat} {v : Int32} (hx : x < 5) : okV [(x, v)] := by
  refine ⟨by show 1 ≤ 60; omega, ?_⟩
  show okF [(truN x, 1, 0)] [(x, 0)]
  refine ⟨by show x ≤ 20; omega, rfl, by show 1 ≤ 12; omega, fun _ => ⟨by show x ≠ 5; omega, by show x ≠ 6; omega⟩, fun _ => by show x ≠ 19; omega, ?_⟩
  rcases (by omega : x = 0 ∨ x = 1 ∨ x = 2 ∨ x = 3 ∨ x = 4) with r | r | r | r | r <;> subst r <;> exact trivial
theorem fr121 {V : Nat → Nat → Value} {I : Nat → Nat → Int32} {n : Int32} : frTo V (vup V 174 121 (.int n)) I I := ⟨fun a j n => vup_o (fun e => n ⟨e.1, .inr (.inr e.2)⟩), fun _ _ _ _ _ _ _ _ _ => rfl, fun w => wt_i w (by decide)⟩
set_option maxRecDepth 100000 in
set_option maxHeartbeats 4000000 in
theorem i558_0 {V : Nat → Nat → Value} {I : Nat → Nat → Int32} {L : Nat → Nat → Int64} {R : Nat → Nat → Option Nat} {tl : am_H} {N x : Nat} {v : Int32} {st : List xT} (hN : 400 < N) (h : hSt V I st) (hx : x < 5) (hl : st.length ≤ 7) : outT L R tl V I x v st (fm_558 N (.ref 174) (nI x) v (fx V I L R ++ tl)) := by
  obtain ⟨h1, h2, h3⟩ := h
  have f0 : hfr st.length I (iup I 252 (upd (I 252) st.length 0)) := ⟨fun y _ _ c => iup_na c, fun i n => upd_ne n, fun i n => ⟨rfl, rfl⟩⟩
  obtain ⟨J, e, p, f⟩ := h559 (V := V) (I := iup I 252 (upd (I 252) st.length 0)) (L := L) (R := R) (tl := tl) (q := st.length) (a := x) (b := v) (T := []) (by omega) ⟨upd_eq, by show 0 ≤ 128; omega, fun i x e => absurd e (by simp)⟩ (by show 0 < 128; omega) (nI x) rfl
  refine ⟨vup V 174 121 (.int (nI (st.length + 1))), J, frTo_t (frTo_h (hfr_t f0 f)) fr121, .inl ⟨[(x, v)] :: st, ?_, .inl ⟨hx, rfl⟩, rfl, lvR_p p (lvR_m h2 (fun i T hi hT => hfr_h f (by omega) (hfr_h f0 (by omega) hT))), fun T hT => ?_⟩⟩
  · apply hm_558
    apply hd_558_0
    refine ev_f (nI_ge (b := 5) hx (by decide)) (ev_b (rdR rfl) (ev_b (rdI h1) (ev_b (qs_252 (by omega)) (ev_b (rdI h1) (ev_i rfl (ev_cV e (ev_b (rdI h1) ?_)))))))
    rw [nI_1]
    exact ev_b qp_174_121 rfl
  · cases hT with
    | head => exact okV_1 hx
    | tail _ hT => exact h3 T hT
set_option maxRecDepth 100000 in
set_option maxHeartbeats 4000000 in
theorem i558_5 {V : Nat → Nat → Value} {I : Nat → Nat → Int32} {L : Nat → Nat → Int64} {R : Nat → Nat → Option Nat} {tl : am_H} {N x : Nat} {v : Int32} {st : List xT} (hN : 400 < N) (h : hSt V I st) (hx : 5 ≤ x ∧ x < 7) (hl : st.length ≤ 8) (h0 : 1 ≤ st.length) : outT L R tl V I x v st (fm_558 N (.ref 174) (nI x) v (fx V I L R ++ tl)) := by
  obtain ⟨h1, h2, h3⟩ := h
  cases st with
  | nil => exact absurd h0 (by show ¬ 1 ≤ 0; omega)
  | cons S r =>
    obtain ⟨t1, t2⟩ := lvR_t h2
    rw [List.length_cons] at hl h1
    obtain ⟨W, J, b, e, g, k, f⟩ := h560_1 (V := V) (L := L) (R := R) (tl := tl) (a := x + 2) hN (by omega) (by omega) h1 t1 (h3 S (List.mem_cons_self ..)) (nI x + 2) (nI_p2 x)
    have st1 : fm_558 N (.ref 174) (nI x) v (fx V I L R ++ tl) = some (.inl (some (.int (bI b)), fx W J L R ++ tl)) := by
      apply hm_558
      apply hd_558_0
      refine ev_t (nI_le (a := 5) hx.1 (by omega)) (ev_f (nI_ge (b := 14) (by omega) (by decide)) (ev_f (nI_ge (b := 7) hx.2 (by decide)) ?_))
      apply hd_558_59
      exact ev_i rfl (ev_cI e (ev_i (bI_fit b) rfl))
    refine ⟨W, J, f, ?_⟩
    cases b with
    | false =>
      refine .inr ⟨st1, fun st' hs => ?_⟩
      obtain ⟨T, r', e1, e2, e3⟩ := (stp_no hs).2.1 hx.1 hx.2
      injection e1 with e1 e4
      subst e1
      exact Bool.noConfusion (g.mpr e2)
    | true =>
      have ok := g.mp rfl
      obtain ⟨k1, k2, k3⟩ := k rfl
      refine .inl ⟨jn1 (x + 2) S :: r, st1, .inr (.inl ⟨hx.1, hx.2, S, r, rfl, ok, rfl⟩), k3, lvR_p k1 (lvR_m t2 (fun i T hi hT => k2 i T hi hT)), fun T hT => ?_⟩
      cases hT with
      | head => exact ok
      | tail _ hT => exact h3 T (List.mem_cons_of_mem _ hT)
set_option maxRecDepth 100000 in
set_option maxHeartbeats 4000000 in
theorem i558_7 {V : Nat → Nat → Value} {I : Nat → Nat → Int32} {L : Nat → Nat → Int64} {R : Nat → Nat → Option Nat} {tl : am_H} {N x : Nat} {v : Int32} {st : List xT} (hN : 400 < N) (h : hSt V I st) (hx : 7 ≤ x ∧ x < 14) (hl : st.length ≤ 8) (h0 : 2 ≤ st.length) : outT L R tl V I x v st (fm_558 N (.ref 174) (nI x) v (fx V I L R ++ tl)) := by
  obtain ⟨h1, h2, h3⟩ := h
  cases st with
  | nil => exact absurd h0 (by show ¬ 2 ≤ 0; omega)
  | cons Q r0 => cases r0 with
    | nil => exact absurd h0 (by show ¬ 2 ≤ 1; omega)
    | cons S r =>
      obtain ⟨t1, t2⟩ := lvR_t h2
      obtain ⟨u1, u2⟩ := lvR_t t2
      rw [List.length_cons, List.length_cons] at hl h1
      rw [List.length_cons] at t1
      obtain ⟨W, J, b, e, g, k, f⟩ := h560_2 (V := V) (L := L) (R := R) (tl := tl) (a := x + 3) hN (by omega) (by omega) h1 u1 (h3 S (List.mem_cons_of_mem _ (List.mem_cons_self ..))) t1 (h3 Q (List.mem_cons_self ..)) (nI x + 3) (nI_p3 x)
      have st1 : fm_558 N (.ref 174) (nI x) v (fx V I L R ++ tl) = some (.inl (some (.int (bI b)), fx W J L R ++ tl)) := by
        apply hm_558
        apply hd_558_0
        refine ev_t (nI_le (a := 5) (by omega) (by omega)) (ev_f (nI_ge (b := 14) (by omega) (by decide)) (ev_t (nI_le (a := 7) hx.1 (by omega)) ?_))
        apply hd_558_59
        exact ev_i rfl (ev_cI e (ev_i (bI_fit b) rfl))
      refine ⟨W, J, f, ?_⟩
      cases b with
      | false =>
        refine .inr ⟨st1, fun st' hs => ?_⟩
        obtain ⟨T, S', r', e1, e2, e3⟩ := (stp_no hs).2.2.1 hx.1 hx.2
        injection e1 with e1 e4
        injection e4 with e4 e5
        subst e1
        subst e4
        exact Bool.noConfusion (g.mpr e2)
      | true =>
        have ok := g.mp rfl
        obtain ⟨k1, k2, k3⟩ := k rfl
        refine .inl ⟨jn2 (x + 3) S Q :: r, st1, .inr (.inr (.inl ⟨hx.1, hx.2, Q, S, r, rfl, ok, rfl⟩)), k3, lvR_p k1 (lvR_m u2 (fun i T hi hT => k2 i T hi hT)), fun T hT => ?_⟩
        cases hT with
        | head => exact ok
        | tail _ hT => exact h3 T (List.mem_cons_of_mem _ (List.mem_cons_of_mem _ hT))
set_option maxRecDepth 100000 in
set_option maxHeartbeats 4000000 in
theorem i558_14 {V : Nat → Nat → Value} {I : Nat → Nat → Int32} {L : Nat → Nat → Int64} {R : Nat → Nat → Option Nat} {tl : am_H} {N x : Nat} {v : Int32} {st : List xT} (hN : 400 < N) (h : hSt V I st) (hx : x = 14) (hl : st.length ≤ 7) (h0 : 1 ≤ st.length) : outT L R tl V I x v st (fm_558 N (.ref 174) (nI x) v (fx V I L R ++ tl)) := by
  obtain ⟨h1, h2, h3⟩ := h
  cases st with
  | nil => exact absurd h0 (by show ¬ 1 ≤ 0; omega)
  | cons S r =>
    obtain ⟨t1, t2⟩ := lvR_t h2
    rw [List.length_cons] at hl h1
    have em : nI (r.length + 1) - 1 = nI r.length := nI_sub (b := 1) (by omega)
    obtain ⟨J, e, p, f⟩ := h564 (V := V) (L := L) (R := R) (tl := tl) (a := r.length) (b := r.length + 1) hN (by omega) (by omega) (by omega) t1 (nI (r.length + 1) - 1) (nI (r.length + 1)) em rfl
    refine ⟨vup V 174 121 (.int (nI (r.length + 1 + 1))), J, frTo_t (frTo_h f) fr121, .inl ⟨S :: S :: r, ?_, .inr (.inr (.inr (.inl ⟨hx, S, r, rfl, rfl⟩))), rfl, lvR_p p (lvR_p (hfr_h f (by omega) t1) (lvR_m t2 (fun i T hi hT => hfr_h f (by omega) hT))), fun T hT => ?_⟩⟩
    · subst hx
      apply hm_558
      apply hd_558_0
      refine ev_t (by decide) (ev_t (by decide) (ev_f (fun h => h rfl) (ev_b (rdI h1) (ev_b (rdI h1) (ev_i rfl (ev_cV e (ev_b (rdI h1) ?_)))))))
      rw [nI_1]
      exact ev_b qp_174_121 rfl
    · cases hT with
      | head => exact h3 _ (List.mem_cons_self ..)
      | tail _ hT => exact h3 T hT
set_option maxRecDepth 100000 in
set_option maxHeartbeats 4000000 in
theorem i558_16 {V : Nat → Nat → Value} {I : Nat → Nat → Int32} {L : Nat → Nat → Int64} {R : Nat → Nat → Option Nat} {tl : am_H} {N x : Nat} {v : Int32} {st : List xT} (hN : 400 < N) (h : hSt V I st) (hx : x = 16) (hl : st.length ≤ 8) (h0 : 1 ≤ st.length) : outT L R tl V I x v st (fm_558 N (.ref 174) (nI x) v (fx V I L R ++ tl)) := by
  obtain ⟨h1, h2, h3⟩ := h
  cases st with
  | nil => exact absurd h0 (by show ¬ 1 ≤ 0; omega)
  | cons S r =>
    obtain ⟨t1, t2⟩ := lvR_t h2
    rw [List.length_cons] at hl h1
    have em : nI (r.length + 1) - 1 = nI r.length := nI_sub (b := 1) (by omega)
    have k20 := k20_l.mp (okV_i (h3 S (List.mem_cons_self ..))).2.2
    obtain ⟨b, e, g⟩ := h565 (V := V) (L := L) (R := R) (tl := tl) hN (by omega) t1 k20 (nI (r.length + 1) - 1) em
    cases b with
    | false =>
      refine ⟨V, I, frTo_r, .inr ⟨?_, fun st' hs => ?_⟩⟩
      · subst hx
        apply hm_558
        apply hd_558_0
        exact ev_t (by decide) (ev_t (by decide) (ev_t (by decide) (ev_t (by decide) (ev_f (fun h => h rfl) (ev_b (rdI h1) (ev_i rfl (ev_cI e (ev_f (fun h => h rfl) rfl))))))))
      · obtain ⟨T, r', e1, e2, e3⟩ := (stp_no hs).2.2.2.2.2 hx
        injection e1 with e1 e4
        subst e1
        exact Bool.noConfusion (g.mpr e2)
    | true =>
      refine ⟨vup V 174 121 (.int (nI r.length)), I, fr121, .inl ⟨r, ?_, .inr (.inr (.inr (.inr (.inr ⟨hx, S, r, rfl, g.mp rfl, rfl⟩)))), rfl, t2, fun T hT => h3 T (List.mem_cons_of_mem _ hT)⟩⟩
      subst hx
      apply hm_558
      apply hd_558_0
      refine ev_t (by decide) (ev_t (by decide) (ev_t (by decide) (ev_t (by decide) (ev_f (fun h => h rfl) (ev_b (rdI h1) (ev_i rfl (ev_cI e (ev_t (by decide) (ev_b (rdI h1) ?_)))))))))
      rw [em]
      exact ev_b qp_174_121 rfl
set_option maxRecDepth 100000 in
set_option maxHeartbeats 4000000 in
theorem i558_15 {V : Nat → Nat → Value} {I : Nat → Nat → Int32} {L : Nat → Nat → Int64} {R : Nat → Nat → Option Nat} {tl : am_H} {N x : Nat} {v : Int32} {st : List xT} (hN : 400 < N) (h : hSt V I st) (hx : x = 15) (hl : st.length ≤ 8) (h0 : 2 ≤ st.length) : outT L R tl V I x v st (fm_558 N (.ref 174) (nI x) v (fx V I L R ++ tl)) := by
  obtain ⟨h1, h2, h3⟩ := h
  cases st with
  | nil => exact absurd h0 (by show ¬ 2 ≤ 0; omega)
  | cons Q r0 => cases r0 with
    | nil => exact absurd h0 (by show ¬ 2 ≤ 1; omega)
    | cons S r =>
      obtain ⟨t1, t2⟩ := lvR_t h2
      obtain ⟨u1, u2⟩ := lvR_t t2
      rw [List.length_cons, List.length_cons] at hl h1
      rw [List.length_cons] at t1
      have em : nI (r.length + 1 + 1) - 1 = nI (r.length + 1) := nI_sub (b := 1) (by omega)
      have en : nI (r.length + 1 + 1) - 2 = nI r.length := nI_sub (b := 2) (by omega)
      have kQ := k20_l.mp (okV_i (h3 Q (List.mem_cons_self ..))).2.2
      have kS := k20_l.mp (okV_i (h3 S (List.mem_cons_of_mem _ (List.mem_cons_self ..)))).2.2
      obtain ⟨b, e, g⟩ := h565 (V := V) (L := L) (R := R) (tl := tl) hN (by omega) t1 kQ (nI (r.length + 1 + 1) - 1) em
      obtain ⟨b', e', g'⟩ := h565 (V := V) (L := L) (R := R) (tl := tl) hN (by omega) u1 kS (nI (r.length + 1 + 1) - 2) en
      obtain ⟨J1, e1, p1, f1⟩ := h564 (V := V) (L := L) (R := R) (tl := tl) (a := r.length + 1) (b := r.length + 1 + 1) hN (by omega) (by omega) (by omega) t1 (nI (r.length + 1 + 1) - 1) (nI (r.length + 1 + 1)) em rfl
      obtain ⟨J2, e2, p2, f2⟩ := h564 (V := V) (L := L) (R := R) (tl := tl) (a := r.length) (b := r.length + 1) hN (by omega) (by omega) (by omega) (hfr_h f1 (by omega) u1) (nI (r.length + 1 + 1) - 2) (nI (r.length + 1 + 1) - 1) en em
      obtain ⟨J3, e3, p3, f3⟩ := h564 (V := V) (L := L) (R := R) (tl := tl) (a := r.length + 1 + 1) (b := r.length) hN (by omega) (by omega) (by omega) (hfr_h f2 (by omega) p1) (nI (r.length + 1 + 1)) (nI (r.length + 1 + 1) - 2) rfl en
      have go : fg_558_129 N (.ref 174) (fx V I L R ++ tl) = some (.inl (some (.int 1), fx V J3 L R ++ tl)) := by
        apply hd_558_129
        exact ev_b (rdI h1) (ev_b (rdI h1) (ev_i rfl (ev_cV e1 (ev_b (rdI h1) (ev_b (rdI h1) (ev_i rfl (ev_cV e2 (ev_b (rdI h1) (ev_b (rdI h1) (ev_i rfl (ev_cV e3 rfl)))))))))))
      have st1 : ∀ o, (if ¬ bI b = 0 then (fg_558_129 N (.ref 174) (fx V I L R ++ tl)) else (if ¬ bI b' = 0 then (fg_558_129 N (.ref 174) (fx V I L R ++ tl)) else some (.inl (some (.int 0), fx V I L R ++ tl)))) = o → fm_558 N (.ref 174) (nI x) v (fx V I L R ++ tl) = o := fun o k_ => by
        subst hx
        apply hm_558
        apply hd_558_0
        refine ev_t (by decide) (ev_t (by decide) (ev_t (by decide) (ev_f (fun h => h rfl) (ev_b (rdI h1) (ev_i rfl (ev_cI e ?_))))))
        by_cases c : ¬ bI b = 0
        · rw [if_pos c] at k_
          exact ev_t c k_
        · rw [if_neg c] at k_
          refine ev_f c (ev_b (rdI h1) (ev_i rfl (ev_cI e' ?_)))
          exact k_
      have F := frTo_t (frTo_h (V := V) f1) (frTo_t (frTo_h (V := V) f2) (frTo_h (V := V) f3))
      have yes : (nfT Q ∨ nfT S) → fm_558 N (.ref 174) (nI x) v (fx V I L R ++ tl) = some (.inl (some (.int 1), fx V J3 L R ++ tl)) → outT L R tl V I x v (Q :: S :: r) (fm_558 N (.ref 174) (nI x) v (fx V I L R ++ tl)) := fun hn e => ⟨V, J3, F, .inl ⟨S :: Q :: r, e, .inr (.inr (.inr (.inr (.inl ⟨hx, Q, S, r, rfl, hn, rfl⟩)))), h1, lvR_p (hfr_h f3 (by show r.length + 1 ≠ r.length; omega) p2) (lvR_p p3 (lvR_m u2 (fun i T hi hT => hfr_h f3 (by omega) (hfr_h f2 (by omega) (hfr_h f1 (by omega) hT))))), fun T hT => by
        cases hT with
        | head => exact h3 _ (List.mem_cons_of_mem _ (List.mem_cons_self ..))
        | tail _ hT => cases hT with
          | head => exact h3 _ (List.mem_cons_self ..)
          | tail _ hT => exact h3 T (List.mem_cons_of_mem _ (List.mem_cons_of_mem _ hT))⟩⟩
      cases b with
      | true => exact yes (.inl (g.mp rfl)) (st1 _ (ev_t (by decide) go))
      | false => cases b' with
        | true => exact yes (.inr (g'.mp rfl)) (st1 _ (ev_f (fun h => h rfl) (ev_t (by decide) go)))
        | false =>
          refine ⟨V, I, frTo_r, .inr ⟨st1 _ (ev_f (fun h => h rfl) (ev_f (fun h => h rfl) rfl)), fun st' hs => ?_⟩⟩
          obtain ⟨T, S', r', e1, e2, e3⟩ := (stp_no hs).2.2.2.2.1 hx
          injection e1 with e1 e4
          injection e4 with e4 e5
          subst e1
          subst e4
          rcases e2 with e2 | e2
          · exact Bool.noConfusion (g.mpr e2)
          · exact Bool.noConfusion (g'.mpr e2)
