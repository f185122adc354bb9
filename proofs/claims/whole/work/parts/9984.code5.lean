/-! ===== running code: the reference's loop; other piles, other rows ===== -/
set_option maxRecDepth 100000 in
set_option maxHeartbeats 800000 in
theorem d_273 {V : Nat → Nat → Value} {I : Nat → Nat → Int32} {L : Nat → Nat → Int64} {R : Nat → Nat → Option Nat} {tl : am_H} {N : Nat} {st : eSt} {g : Nat → Int32} : fg_415_273 N (.ref 174) (fx (rW V st) (iup I 194 g) L R ++ tl) = some (.inl (none, fx (vup (rW V st) 174 49 (.int (g 0))) (iup I 194 g) L R ++ tl)) := by
  unfold fg_415_273
  exact ev_b (a := Value.ref 194) rfl (ev_b (d_ra (i := 0) (by omega)) (ev_b qp_174_49 rfl))
theorem oneV_f {len : Nat} {row : Nat → Int32} {s : Nat} {a : Int32} {st : eSt} (h : st.1 = 0) : (oneV len row s a st).2.1 = 0 ∨ (oneV len row s a st).2.1 = 2 := by
  unfold oneV
  by_cases c1 : s = 9
  · rw [if_pos c1]; exact .inl h
  · rw [if_neg c1]
    by_cases c2 : s = 7
    · rw [if_pos c2]; exact .inl h
    · rw [if_neg c2]
      by_cases c3 : a < 0 ∨ nI len ≤ a
      · rw [if_pos c3]; exact .inr rfl
      · rw [if_neg c3]; exact .inl h
theorem twoV_f {s : Nat} {a b : Int32} {st : eSt} (h : st.1 = 0) : (twoV s a b st).2.1 = 0 ∨ (twoV s a b st).2.1 = 1 := by
  unfold twoV
  by_cases c1 : s = 10
  · rw [if_pos c1]; exact .inl h
  · rw [if_neg c1]
    by_cases c2 : s = 11
    · rw [if_pos c2]; exact .inl h
    · rw [if_neg c2]
      by_cases c3 : s = 12
      · rw [if_pos c3]; exact .inl h
      · rw [if_neg c3]
        by_cases c4 : s = 15
        · rw [if_pos c4]; exact .inl h
        · rw [if_neg c4]
          by_cases c5 : s = 16
          · rw [if_pos c5]; exact .inl h
          · rw [if_neg c5]
            by_cases c6 : b = 0
            · rw [if_pos c6]; exact .inr rfl
            · rw [if_neg c6]
              by_cases c7 : s = 13
              · rw [if_pos c7]; exact .inl h
              · rw [if_neg c7]; exact .inl h
theorem cdS_f {x y z : Int32} {len : Nat} {row : Nat → Int32} {s : Nat} {c : Int32} {T : Nat} {g : Nat → Int32} {st : eSt} (h : st.1 = 0) : (cdS x y z len row s c T g st).2.1 = 0 ∨ (cdS x y z len row s c T g st).2.1 = 1 ∨ (cdS x y z len row s c T g st).2.1 = 2 := by
  unfold cdS
  by_cases c1 : s < 5
  · rw [if_pos c1]; exact .inl h
  · rw [if_neg c1]
    by_cases c2 : s < 7
    · rw [if_pos c2]
      rcases oneV_f (len := len) (row := row) (s := s + 2) (a := g (T - 1)) h with e | e
      · exact .inl e
      · exact .inr (.inr e)
    · rw [if_neg c2]
      by_cases c3 : s < 14
      · rw [if_pos c3]
        rcases twoV_f (s := s + 3) (a := g (T - 2)) (b := g (T - 1)) h with e | e
        · exact .inl e
        · exact .inr (.inl e)
      · rw [if_neg c3]
        by_cases c4 : s = 14
        · rw [if_pos c4]; exact .inl h
        · rw [if_neg c4]
          by_cases c5 : s = 15
          · rw [if_pos c5]; exact .inl h
          · rw [if_neg c5]; exact .inl h
theorem crun_f {x y z : Int32} {len : Nat} {row : Nat → Int32} {lm sz : Nat} {s a : Nat → Nat} {v : Nat → Int32} {ht : Nat → Nat} {m k : Nat} {g : Nat → Int32} {st : eSt} (h : st.1 ≠ 0) : crun x y z len row lm sz s a v ht m k g st = (g, st) := by
  cases m with
  | zero => rfl
  | succ m =>
    by_cases c : sz ≤ k
    · exact if_pos c
    · exact (if_neg c).trans (if_pos h)
set_option maxRecDepth 100000 in
set_option maxHeartbeats 800000 in
theorem r_415l {V : Nat → Nat → Value} {I : Nat → Nat → Int32} {L : Nat → Nat → Int64} {R : Nat → Nat → Option Nat} {tl : am_H} {N sz lm len : Nat} {s a : Nat → Nat} {v : Nat → Int32} {ht : Nat → Nat} {x y z : Int32} (hE : cdG V I sz s v x y z len lm) (hO : cdO sz s a v ht) : ∀ (m k K : Nat) (g : Nat → Int32) (st : eSt), sz ≤ k + m → k ≤ sz → m < K → st.2.1 ≤ lm → st.1 = 0 → ht k ≤ 8 → fg_415_4 N K (.ref 174) (nI (ht k)) (nI k) (fx (rW V st) (iup I 194 g) L R ++ tl) = some (.inl (none, fx (vup (rW V (crun x y z len (I 212) lm sz s a v ht m k g st).2) 174 49 (.int ((crun x y z len (I 212) lm sz s a v ht m k g st).1 0))) (iup I 194 (crun x y z len (I 212) lm sz s a v ht m k g st).1) L R ++ tl)) := by
  have hE' := hE
  have hO' := hO
  obtain ⟨h51, h52, h53, h54, hlen, hl, hlm, h14, hs⟩ := hE
  obtain ⟨hsz, -, -, hte, hc⟩ := hO
  have atEnd : ∀ (K : Nat) (w : Int32) (g : Nat → Int32) (st : eSt), fg_415_4 N (K + 1) (.ref 174) w (nI sz) (fx (rW V st) (iup I 194 g) L R ++ tl) = some (.inl (none, fx (vup (rW V st) 174 49 (.int (g 0))) (iup I 194 g) L R ++ tl)) := fun K w g st => by
    rw [fg_415_4]
    exact ev_b (a := nI sz) (by show am_vI (some (V 174 14)) = _; rw [h14]; rfl) (ev_t (nI_le (Nat.le_refl _) (by omega)) d_273)
  intro m
  induction m with
  | zero =>
    intro k K g st hk hk2 hK hu h0 h8
    obtain ⟨K, rfl⟩ : ∃ k, K = k + 1 := ⟨K - 1, by omega⟩
    obtain rfl : k = sz := by omega
    exact atEnd K _ g st
  | succ m ih =>
    intro k K g st hk hk2 hK hu h0 h8
    obtain ⟨K, rfl⟩ : ∃ k, K = k + 1 := ⟨K - 1, by omega⟩
    by_cases ck : sz ≤ k
    · have e : (crun x y z len (I 212) lm sz s a v ht (m + 1) k g st) = (g, st) := if_pos ck
      obtain rfl : k = sz := by omega
      rw [e]
      exact atEnd K _ g st
    · by_cases cu : st.2.1 < lm
      · have e : (crun x y z len (I 212) lm sz s a v ht (m + 1) k g st) = (crun x y z len (I 212) lm sz s a v ht m (cN (s k) (a k) (ht k) k (cdS x y z len (I 212) (s k) (v k) (ht k) g (st.1, st.2.1 + 1, st.2.2)).1) (cdS x y z len (I 212) (s k) (v k) (ht k) g (st.1, st.2.1 + 1, st.2.2)).1 (cdS x y z len (I 212) (s k) (v k) (ht k) g (st.1, st.2.1 + 1, st.2.2)).2) := (if_neg ck).trans ((if_neg (fun e => e h0)).trans (if_pos cu))
        have ci := r_ins (N := N) (K := K) (st := st) (g := g) (L := L) (R := R) (tl := tl) hE' hO' (show k < sz by omega) rfl h8 h0 cu
        have cf := cdS_f (x := x) (y := y) (z := z) (len := len) (row := I 212) (s := s k) (c := v k) (T := ht k) (g := g) (st := (st.1, st.2.1 + 1, st.2.2)) h0
        have cu' : (cdS x y z len (I 212) (s k) (v k) (ht k) g (st.1, st.2.1 + 1, st.2.2)).2.2.1 = st.2.1 + 1 := cdS_u
        obtain ⟨n1, n2, n3⟩ := cN_le (g := (cdS x y z len (I 212) (s k) (v k) (ht k) g (st.1, st.2.1 + 1, st.2.2)).1) hO' (show k < sz by omega)
        have q3 := (hc k (by omega)).2.2.1
        rw [← n3] at ci q3
        rw [e]
        generalize cdS x y z len (I 212) (s k) (v k) (ht k) g (st.1, st.2.1 + 1, st.2.2) = r at ci cu' n1 n2 n3 q3 cf ⊢
        generalize cN (s k) (a k) (ht k) k r.1 = k' at ci n1 n2 n3 q3 ⊢
        refine ci.trans ?_
        by_cases r0 : r.2.1 = 0
        · rw [if_pos (show r.2.1 ≤ 0 by rw [r0]; decide)]
          exact ih k' K r.1 r.2 (by omega) n2 (by omega) (by omega) r0 q3
        · rw [if_neg (show ¬ r.2.1 ≤ 0 from fun e => by
            rcases cf with h | h | h
            · exact r0 h
            · rw [h] at e; exact absurd e (by decide)
            · rw [h] at e; exact absurd e (by decide)), crun_f r0]
          obtain ⟨K, rfl⟩ : ∃ k, K = k + 1 := ⟨K - 1, by omega⟩
          exact atEnd K _ r.1 r.2
      · have e : (crun x y z len (I 212) lm sz s a v ht (m + 1) k g st) = (g, ((3, st.2) : eSt)) := (if_neg ck).trans ((if_neg (fun e => e h0)).trans (if_neg cu))
        rw [e]
        obtain ⟨f0, u, cs, ce⟩ := st
        obtain rfl : f0 = 0 := h0
        have hu' : u ≤ lm := hu
        obtain rfl : u = lm := Nat.le_antisymm hu' (Nat.not_lt.mp cu)
        rw [fg_415_4]
        exact ev_b (a := nI sz) (by show am_vI (some (V 174 14)) = _; rw [h14]; rfl) (ev_f (nI_ge (by omega) (by omega)) (ev_i rfl (ev_cI (r_407n (V := vup (vup V 174 58 (.int cs)) 174 59 (.int ce)) (I := iup I 194 g) (lm := u) hl) (ev_t rfl (d_273 (st := (3, u, cs, ce)) (g := g))))))
theorem oneV_r {len : Nat} {row row' : Nat → Int32} {s : Nat} {a : Int32} {st : eSt} (hl : len ≤ 8) (h : ∀ i, i < len → row i = row' i) : oneV len row s a st = oneV len row' s a st := by
  unfold oneV
  by_cases c1 : s = 9
  · rw [if_pos c1, if_pos c1]
  · rw [if_neg c1, if_neg c1]
    by_cases c2 : s = 7
    · rw [if_pos c2, if_pos c2]
    · rw [if_neg c2, if_neg c2]
      rcases dich a (n := len) (by omega) with hn | ⟨k, hk, rfl⟩
      · rw [if_pos hn, if_pos hn]
      · rw [nI_clamp (by omega), h k hk]
theorem fld_r {len : Nat} {row row' : Nat → Int32} {ev ev' : eSt → Int32 × eSt} (h : ∀ i, i < len → row i = row' i) (he : ∀ st, ev st = ev' st) : ∀ (m i : Nat) (r : Int32) (st : eSt), i + m ≤ len → fld row ev m i r st = fld row' ev' m i r st := by
  intro m
  induction m with
  | zero => intro i r st _; rfl
  | succ m ih =>
    intro i r st hi
    rw [fld, fld, h i (by omega), he]
    by_cases c : st.1 ≠ 0
    · rw [if_pos c, if_pos c]
    · rw [if_neg c, if_neg c]
      exact ih _ _ _ (by omega)
theorem evN_r {x y z : Int32} {len lm : Nat} {row row' : Nat → Int32} {s : Nat → Nat} {v : Nat → Int32} {en : Nat → Nat} (hl : len ≤ 8) (h : ∀ i, i < len → row i = row' i) : ∀ (d k : Nat) (st : eSt), evN x y z len row lm s v en d k st = evN x y z len row' lm s v en d k st := by
  intro d
  induction d with
  | zero => intro k st; rfl
  | succ d ih =>
    intro k st
    rw [evN, evN, ih (k + 1)]
    have e : ∀ (a : Int32) (w : eSt), evP len row (s k) a w (evN x y z len row lm s v en d (en (k + 1))) (evN x y z len row lm s v en d (en (en (k + 1)))) = evP len row' (s k) a w (evN x y z len row' lm s v en d (en (k + 1))) (evN x y z len row' lm s v en d (en (en (k + 1)))) := fun a w => by
      unfold evP evQ
      rw [oneV_r hl h, fld_r h (fun st => ih (en (k + 1)) st) len 0 a w (by omega), ih (en (k + 1)), ih (en (en (k + 1)))]
    rw [e]
