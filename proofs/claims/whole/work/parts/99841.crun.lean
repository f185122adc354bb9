/-! ===== running code: other piles, other rows ===== -/
theorem cdS_c {x y z : Int32} {len : Nat} {row row' : Nat → Int32} {s : Nat} {c : Int32} {T : Nat} {g g' : Nat → Int32} {st : eSt} (hl : len ≤ 8) (h : ∀ i, i < len → row i = row' i) (hs : s ≤ 18) (hT : tkN s ≤ T) (hg : ∀ i, i < T → g i = g' i) : (cdS x y z len row s c T g st).2 = (cdS x y z len row' s c T g' st).2 ∧ (∀ i, i < T - tkN s + ptN s → (cdS x y z len row s c T g st).1 i = (cdS x y z len row' s c T g' st).1 i) ∧ (s = 18 → (cdS x y z len row s c T g st).1 (T - 1) = (cdS x y z len row' s c T g' st).1 (T - 1)) := by
  have up : ∀ (f f' : Nat → Int32) (j n : Nat) (w : Int32), (∀ i, i < n → i ≠ j → f i = f' i) → ∀ i, i < n → upd f j w i = upd f' j w i := fun f f' j n w hf i hi => by
    by_cases e : i = j
    · rw [e, upd_eq, upd_eq]
    · rw [upd_ne e, upd_ne e]; exact hf i hi e
  unfold cdS
  by_cases c1 : s < 5
  · have a1 : tkN s = 0 := if_pos c1
    have a2 : ptN s = 1 := if_pos (by omega)
    rw [if_pos c1, if_pos c1, a1, a2]
    exact ⟨rfl, up g g' T _ _ (fun i hi ne => hg i (by omega)), fun e => by omega⟩
  · rw [if_neg c1, if_neg c1]
    by_cases c2 : s < 7
    · have a1 : tkN s = 1 := (if_neg c1).trans (if_pos c2)
      have a2 : ptN s = 1 := if_pos (by omega)
      rw [if_pos c2, if_pos c2, a1, a2, hg (T - 1) (by omega), oneV_r hl h]
      exact ⟨rfl, up g g' (T - 1) _ _ (fun i hi ne => hg i (by omega)), fun e => by omega⟩
    · rw [if_neg c2, if_neg c2]
      by_cases c3 : s < 14
      · have a1 : tkN s = 2 := (if_neg c1).trans ((if_neg c2).trans (if_pos c3))
        have a2 : ptN s = 1 := if_pos c3
        rw [if_pos c3, if_pos c3, a1, a2, hg (T - 1) (by omega), hg (T - 2) (by omega)]
        exact ⟨rfl, up g g' (T - 2) _ _ (fun i hi ne => hg i (by omega)), fun e => by omega⟩
      · rw [if_neg c3, if_neg c3]
        by_cases c4 : s = 14
        · rw [c4] at hT ⊢
          have a1 : tkN 14 = 1 := rfl
          have a2 : ptN 14 = 2 := rfl
          rw [if_pos rfl, if_pos rfl, a1, a2, hg (T - 1) (by omega)]
          exact ⟨rfl, up g g' T _ _ (fun i hi ne => hg i (by omega)), fun e => by omega⟩
        · rw [if_neg c4, if_neg c4]
          by_cases c5 : s = 15
          · rw [c5] at hT ⊢
            have a1 : tkN 15 = 2 := rfl
            have a2 : ptN 15 = 2 := rfl
            rw [if_pos rfl, if_pos rfl, a1, a2, hg (T - 1) (by omega), hg (T - 2) (by omega)]
            exact ⟨rfl, up _ _ (T - 2) _ _ (fun i hi ne => up g g' (T - 1) T _ (fun i hi ne => hg i hi) i (by omega)), fun e => by omega⟩
          · rw [if_neg c5, if_neg c5]
            have a2 : ptN s = 0 := (if_neg c3).trans (if_neg (by omega))
            exact ⟨rfl, fun i hi => hg i (by omega), fun e => hg (T - 1) (by rw [e] at hT; have : tkN 18 = 1 := rfl; omega)⟩
theorem crun_c {x y z : Int32} {len lm sz : Nat} {row row' : Nat → Int32} {s a : Nat → Nat} {v : Nat → Int32} {ht : Nat → Nat} (hl : len ≤ 8) (h : ∀ i, i < len → row i = row' i) (hO : cdO sz s a v ht) : ∀ (m k : Nat) (g g' : Nat → Int32) (st : eSt), sz ≤ k + m → k ≤ sz → (∀ i, i < ht k → g i = g' i) → (crun x y z len row lm sz s a v ht m k g st).2 = (crun x y z len row' lm sz s a v ht m k g' st).2 ∧ ((crun x y z len row lm sz s a v ht m k g st).2.1 = 0 → (crun x y z len row lm sz s a v ht m k g st).1 0 = (crun x y z len row' lm sz s a v ht m k g' st).1 0) := by
  have hte := hO.2.2.2.1
  intro m
  induction m with
  | zero =>
    intro k g g' st hk hk2 hg
    obtain rfl : k = sz := by omega
    exact ⟨rfl, fun _ => hg 0 (by omega)⟩
  | succ m ih =>
    intro k g g' st hk hk2 hg
    rw [crun, crun]
    by_cases ck : sz ≤ k
    · obtain rfl : k = sz := by omega
      rw [if_pos ck, if_pos ck]
      exact ⟨rfl, fun _ => hg 0 (by omega)⟩
    · rw [if_neg ck, if_neg ck]
      by_cases c0 : st.1 ≠ 0
      · rw [if_pos c0, if_pos c0]
        exact ⟨rfl, fun e => absurd e c0⟩
      · rw [if_neg c0, if_neg c0]
        by_cases cu : st.2.1 < lm
        · rw [if_pos cu, if_pos cu]
          obtain ⟨q1, q2, q3, q4, q5⟩ := hO.2.2.2.2 k (by omega)
          obtain ⟨e1, e2, e3⟩ := cdS_c (x := x) (y := y) (z := z) (c := v k) (st := (st.1, st.2.1 + 1, st.2.2)) hl h q1 q2 hg
          have n := cN_le (g := (cdS x y z len row' (s k) (v k) (ht k) g' (st.1, st.2.1 + 1, st.2.2)).1) hO (show k < sz by omega)
          generalize cdS x y z len row (s k) (v k) (ht k) g (st.1, st.2.1 + 1, st.2.2) = r at e1 e2 e3 ⊢
          generalize cdS x y z len row' (s k) (v k) (ht k) g' (st.1, st.2.1 + 1, st.2.2) = r' at e1 e2 e3 n ⊢
          have en : cN (s k) (a k) (ht k) k r.1 = cN (s k) (a k) (ht k) k r'.1 := by
            unfold cN
            by_cases c18 : s k = 18
            · rw [e3 c18]
            · by_cases c17 : s k = 17
              · rw [if_pos (.inl c17), if_pos (.inl c17)]
              · rw [if_neg (fun e => e.elim c17 (fun e => c18 e.1)), if_neg (fun e => e.elim c17 (fun e => c18 e.1))]
          rw [en, e1]
          exact ih _ _ _ _ (by omega) n.2.1 (fun i hi => e2 i (by rw [n.2.2] at hi; exact hi))
        · rw [if_neg cu, if_neg cu]
          exact ⟨rfl, fun e => absurd (show (3 : Int32) = 0 from e) (by decide)⟩
