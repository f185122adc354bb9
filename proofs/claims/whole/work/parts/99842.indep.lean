/-! ===== what a fold carried before doesn't count ===== -/
def sq (st st' : eSt) : Prop := st.1 = st'.1 ∧ st.2.1 = st'.2.1
/-- the same value, fault and steps -/
def sR (E E' : Int32 × eSt) : Prop := E.1 = E'.1 ∧ sq E.2 E'.2
theorem sR_rfl (E : Int32 × eSt) : sR E E := ⟨rfl, rfl, rfl⟩
theorem oneV_i {len : Nat} {row : Nat → Int32} {s : Nat} {a : Int32} {st st' : eSt} (h : sq st st') : sR (oneV len row s a st) (oneV len row s a st') := by
  unfold oneV
  by_cases c1 : s = 9
  · rw [if_pos c1, if_pos c1]; exact ⟨rfl, h⟩
  · rw [if_neg c1, if_neg c1]
    by_cases c2 : s = 7
    · rw [if_pos c2, if_pos c2]; exact ⟨rfl, h⟩
    · rw [if_neg c2, if_neg c2]
      by_cases c3 : a < 0 ∨ nI len ≤ a
      · rw [if_pos c3, if_pos c3]; exact ⟨rfl, rfl, h.2⟩
      · rw [if_neg c3, if_neg c3]; exact ⟨rfl, h⟩
theorem twoV_i {s : Nat} {a b : Int32} {st st' : eSt} (h : sq st st') : sR (twoV s a b st) (twoV s a b st') := by
  unfold twoV
  by_cases c1 : s = 10
  · rw [if_pos c1, if_pos c1]; exact ⟨rfl, h⟩
  · rw [if_neg c1, if_neg c1]
    by_cases c2 : s = 11
    · rw [if_pos c2, if_pos c2]; exact ⟨rfl, h⟩
    · rw [if_neg c2, if_neg c2]
      by_cases c3 : s = 12
      · rw [if_pos c3, if_pos c3]; exact ⟨rfl, h⟩
      · rw [if_neg c3, if_neg c3]
        by_cases c4 : s = 15
        · rw [if_pos c4, if_pos c4]; exact ⟨rfl, h⟩
        · rw [if_neg c4, if_neg c4]
          by_cases c5 : s = 16
          · rw [if_pos c5, if_pos c5]; exact ⟨rfl, h⟩
          · rw [if_neg c5, if_neg c5]
            by_cases c6 : b = 0
            · rw [if_pos c6, if_pos c6]; exact ⟨rfl, rfl, h.2⟩
            · rw [if_neg c6, if_neg c6]
              by_cases c7 : s = 13
              · rw [if_pos c7, if_pos c7]; exact ⟨rfl, h⟩
              · rw [if_neg c7, if_neg c7]; exact ⟨rfl, h⟩
theorem lfV_i {x y z : Int32} {len s : Nat} {c : Int32} {st st' : eSt} (h5 : s ≠ 5) (h6 : s ≠ 6) : lfV x y z len s c st = lfV x y z len s c st' := by
  unfold lfV
  rw [if_neg h5, if_neg h6, if_neg h5, if_neg h6]
theorem fld_i {row : Nat → Int32} {ev : eSt → Int32 × eSt} {m i : Nat} {r : Int32} {st st' : eSt} (h : sq st st') : sR (fld row ev m i r st) (fld row ev m i r st') := by
  cases m with
  | zero => exact ⟨rfl, h⟩
  | succ m =>
    rw [fld, fld, h.1, h.2]
    by_cases c : st'.1 ≠ 0
    · rw [if_pos c, if_pos c]; exact ⟨rfl, h⟩
    · rw [if_neg c, if_neg c]; exact sR_rfl _
theorem evR_i {s : Nat} {a : Int32} {q q' : Int32 × eSt} (h : sR q q') : sR (evR s a q) (evR s a q') := by
  unfold evR
  rw [h.2.1]
  by_cases c7 : q'.2.1 ≠ 0
  · rw [if_pos c7, if_pos c7]; exact h
  · rw [if_neg c7, if_neg c7]
    by_cases c8 : s = 17 ∨ s = 18 ∨ s = 20
    · rw [if_pos c8, if_pos c8]; exact h
    · rw [if_neg c8, if_neg c8, h.1]; exact twoV_i h.2
theorem evN_i {x y z : Int32} {len lm : Nat} {row : Nat → Int32} {v : Nat → Int32} {l : List (Nat × Nat)} {sN : Nat → Nat} (ho : okF [(0, 1, 0)] l) (hs : ∀ k w r, l.drop k = w :: r → sN k = w.1) : ∀ (d k : Nat) (st st' : eSt), k < l.length → (cxK l k).2.2 = 0 → sq st st' → sR (evN x y z len row lm sN v (enL l) d k st) (evN x y z len row lm sN v (enL l) d k st') := by
  intro d
  induction d with
  | zero => intro k st st' _ _ h; exact ⟨rfl, h⟩
  | succ d ih =>
    intro k st st' hk hc h
    obtain ⟨w, r, m, hd, -⟩ := isF_at (okF_F l _ ho) hk
    obtain ⟨q1, q2, q3, q4, q5, q6⟩ := form_at ho hd
    have es : sN k = w.1 := hs k w r hd
    have d1 : l.drop (k + 1) = r := by
      have := drop_s hd 0
      rw [List.drop_zero] at this
      exact this
    have e1 : enL l (k + 1) = k + 1 + tk 1 r := by
      unfold enL
      rw [d1]
    have e2 : enL l (k + 1 + tk 1 r) = k + 1 + tk 2 r := by
      unfold enL
      rw [drop_s hd, show (2 : Nat) = 1 + 1 from rfl, tk_add r 1 1]
      omega
    have part : ∀ p, p < arN w.1 → ¬ (w.1 = 19 ∧ p = 1) → k + 1 + tk p r < l.length ∧ (cxK l (k + 1 + tk p r)).2.2 = 0 := fun p hp hn => by
      obtain ⟨y', r2, u1, u2⟩ := q6 p hp
      have := drop_len u1
      refine ⟨by omega, ?_⟩
      rw [u2]
      show (if w.1 = 19 ∧ p = 1 then 1 else (cxK l k).2.2) = 0
      rw [if_neg hn]
      exact hc
    rw [evN, evN, h.1, h.2]
    by_cases c0 : st'.1 ≠ 0
    · rw [if_pos c0, if_pos c0]; exact ⟨rfl, h⟩
    · rw [if_neg c0, if_neg c0]
      by_cases cu : st'.2.1 < lm
      · rw [if_pos cu, if_pos cu]
        by_cases c7 : sN k < 7
        · rw [if_pos c7, if_pos c7]
          obtain ⟨n5, n6⟩ := q4 hc
          exact ⟨lfV_i (by rw [es]; exact n5) (by rw [es]; exact n6), rfl, rfl⟩
        · rw [if_neg c7, if_neg c7]
          have a7 : 1 ≤ arN w.1 := by
            unfold arN
            rw [if_neg (by omega)]
            split
            · omega
            · split <;> omega
          have p0 := part 0 (by omega) (by omega)
          rw [tk_0, Nat.add_zero] at p0
          have i1 := ih (k + 1) (st'.1, st'.2.1 + 1, st.2.2) (st'.1, st'.2.1 + 1, st'.2.2) p0.1 p0.2 ⟨rfl, rfl⟩
          generalize evN x y z len row lm sN v (enL l) d (k + 1) (st'.1, st'.2.1 + 1, st.2.2) = q at i1 ⊢
          generalize evN x y z len row lm sN v (enL l) d (k + 1) (st'.1, st'.2.1 + 1, st'.2.2) = q' at i1 ⊢
          unfold evP
          rw [i1.1, i1.2.1]
          by_cases b1 : q'.2.1 ≠ 0
          · rw [if_pos b1, if_pos b1]; exact ⟨rfl, i1.2⟩
          · rw [if_neg b1, if_neg b1]
            by_cases b2 : sN k = 17 ∧ q'.1 = 0
            · rw [if_pos b2, if_pos b2]; exact ⟨rfl, i1.2⟩
            · rw [if_neg b2, if_neg b2]
              by_cases b3 : sN k = 18 ∧ ¬ q'.1 = 0
              · rw [if_pos b3, if_pos b3]; exact ⟨rfl, i1.2⟩
              · rw [if_neg b3, if_neg b3]
                unfold evQ
                by_cases b4 : sN k < 10
                · rw [if_pos b4, if_pos b4]; exact oneV_i i1.2
                · rw [if_neg b4, if_neg b4]
                  have a10 : 2 ≤ arN w.1 := by
                    unfold arN
                    rw [if_neg (by omega), if_neg (by omega)]
                    split <;> omega
                  by_cases b5 : sN k = 19
                  · rw [if_pos b5, if_pos b5]; exact fld_i i1.2
                  · rw [if_neg b5, if_neg b5]
                    by_cases b6 : sN k = 20 ∧ q'.1 = 0
                    · rw [if_pos b6, if_pos b6, e1, e2]
                      have p2 := part 2 (by rw [← es, b6.1]; decide) (by omega)
                      exact ih _ _ _ p2.1 p2.2 i1.2
                    · rw [if_neg b6, if_neg b6, e1]
                      have p1 := part 1 (by omega) (by omega)
                      exact evR_i (ih _ _ _ p1.1 p1.2 i1.2)
      · rw [if_neg cu, if_neg cu]
        exact ⟨rfl, rfl, h.2⟩
theorem cdS_i {x y z : Int32} {len : Nat} {row : Nat → Int32} {s : Nat} {c : Int32} {T : Nat} {g : Nat → Int32} {st st' : eSt} (h : sq st st') : (cdS x y z len row s c T g st).1 = (cdS x y z len row s c T g st').1 ∧ sq (cdS x y z len row s c T g st).2 (cdS x y z len row s c T g st').2 := by
  unfold cdS
  by_cases c1 : s < 5
  · rw [if_pos c1, if_pos c1, lfV_i (st := st) (st' := st') (by omega) (by omega)]; exact ⟨rfl, h⟩
  · rw [if_neg c1, if_neg c1]
    by_cases c2 : s < 7
    · rw [if_pos c2, if_pos c2]
      have e := oneV_i (len := len) (row := row) (s := s + 2) (a := g (T - 1)) h
      exact ⟨by show upd g (T - 1) _ = upd g (T - 1) _; rw [e.1], e.2⟩
    · rw [if_neg c2, if_neg c2]
      by_cases c3 : s < 14
      · rw [if_pos c3, if_pos c3]
        have e := twoV_i (s := s + 3) (a := g (T - 2)) (b := g (T - 1)) h
        exact ⟨by show upd g (T - 2) _ = upd g (T - 2) _; rw [e.1], e.2⟩
      · rw [if_neg c3, if_neg c3]
        by_cases c4 : s = 14
        · rw [if_pos c4, if_pos c4]; exact ⟨rfl, h⟩
        · rw [if_neg c4, if_neg c4]
          by_cases c5 : s = 15
          · rw [if_pos c5, if_pos c5]; exact ⟨rfl, h⟩
          · rw [if_neg c5, if_neg c5]; exact ⟨rfl, h⟩
theorem crun_i {x y z : Int32} {len lm sz : Nat} {row : Nat → Int32} {s a : Nat → Nat} {v : Nat → Int32} {ht : Nat → Nat} : ∀ (m k : Nat) (g : Nat → Int32) (st st' : eSt), sq st st' → (crun x y z len row lm sz s a v ht m k g st).1 = (crun x y z len row lm sz s a v ht m k g st').1 ∧ sq (crun x y z len row lm sz s a v ht m k g st).2 (crun x y z len row lm sz s a v ht m k g st').2 := by
  intro m
  induction m with
  | zero => intro k g st st' h; exact ⟨rfl, h⟩
  | succ m ih =>
    intro k g st st' h
    rw [crun, crun, h.1, h.2]
    by_cases ck : sz ≤ k
    · rw [if_pos ck, if_pos ck]; exact ⟨rfl, h⟩
    · rw [if_neg ck, if_neg ck]
      by_cases c0 : st'.1 ≠ 0
      · rw [if_pos c0, if_pos c0]; exact ⟨rfl, h⟩
      · rw [if_neg c0, if_neg c0]
        by_cases cu : st'.2.1 < lm
        · rw [if_pos cu, if_pos cu]
          have e := cdS_i (x := x) (y := y) (z := z) (len := len) (row := row) (s := s k) (c := v k) (T := ht k) (g := g) (st := (st'.1, st'.2.1 + 1, st.2.2)) (st' := (st'.1, st'.2.1 + 1, st'.2.2)) ⟨rfl, rfl⟩
          rw [e.1]
          exact ih _ _ _ _ e.2
        · rw [if_neg cu, if_neg cu]; exact ⟨rfl, rfl, h.2⟩
