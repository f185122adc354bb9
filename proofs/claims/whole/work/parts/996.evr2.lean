/-! ===== running a tree: the reference's turns ===== -/
/-- what the reference needs of a tree on its desk; dp: depths -/
def evG (V : Nat → Nat → Value) (I : Nat → Nat → Int32) (s : Nat → Nat) (v : Nat → Int32) (en dp : Nat → Nat) (x y z : Int32) (len lm sz : Nat) : Prop := V 174 51 = .int x ∧ V 174 52 = .int y ∧ V 174 53 = .int z ∧ V 174 54 = .int (nI len) ∧ len ≤ 8 ∧ I 206 0 = nI lm ∧ lm ≤ 2000 ∧ sz ≤ 60 ∧ ∀ k, k < sz → I 186 k = nI (s k) ∧ I 187 k = v k ∧ I 217 k = nI (en k - k) ∧ k < en k ∧ s k ≤ 20 ∧ dp k ≤ 12 ∧ (7 ≤ s k → k + 1 < sz ∧ dp (k + 1) = dp k + 1) ∧ (10 ≤ s k → en (k + 1) < sz ∧ dp (en (k + 1)) = dp k + 1) ∧ (s k = 20 → en (en (k + 1)) < sz ∧ dp (en (en (k + 1))) = dp k + 1) ∧ (s k = 9 ∨ s k = 17 ∨ s k = 18 ∨ s k = 20 → truN (s (k + 1)) = 1) ∧ (s k = 17 ∨ s k = 18 → truN (s (en (k + 1))) = 1)
/-- from a heap on, the turns come to a value, a state and D frames; U: how many steps there were -/
def goT (N : Nat) (V : Nat → Nat → Value) (I : Nat → Nat → Int32) (L : Nat → Nat → Int64) (R : Nat → Nat → Option Nat) (tl : am_H) (E : Int32 × eSt) (D U : Nat) (fr ph on : Nat → Int32) (h : am_H) : Prop := ∃ (t D' : Nat) (g' : Int32) (fr' ph' on' : Nat → Int32), U ≤ E.2.2.1 ∧ t ≤ 2 * (E.2.2.1 - U) ∧ (E.2.1 = 0 → t + 1 ≤ 2 * (E.2.2.1 - U)) ∧ (∀ K, fg_404_14 N (K + t) (.ref 174) h = fg_404_14 N K (.ref 174) (fx (gW V E.2 D' g') (gJ I fr' ph' on') L R ++ tl)) ∧ (E.2.1 = 0 → D' = D ∧ g' = E.1 ∧ ∀ j, j < D → fr' j = fr j ∧ ph' j = ph j ∧ on' j = on j)
/-- the same, one turn more -/
def goR (N : Nat) (V : Nat → Nat → Value) (I : Nat → Nat → Int32) (L : Nat → Nat → Int64) (R : Nat → Nat → Option Nat) (tl : am_H) (E : Int32 × eSt) (D U : Nat) (fr ph on : Nat → Int32) (h : am_H) : Prop := ∃ (t D' : Nat) (g' : Int32) (fr' ph' on' : Nat → Int32), U ≤ E.2.2.1 ∧ t ≤ 2 * (E.2.2.1 - U) + 1 ∧ (∀ K, fg_404_14 N (K + t) (.ref 174) h = fg_404_14 N K (.ref 174) (fx (gW V E.2 D' g') (gJ I fr' ph' on') L R ++ tl)) ∧ (E.2.1 = 0 → D' = D ∧ g' = E.1 ∧ ∀ j, j < D → fr' j = fr j ∧ ph' j = ph j ∧ on' j = on j)
/-- a node's value, its step done -/
def evB (x y z : Int32) (len : Nat) (row : Nat → Int32) (lm : Nat) (s : Nat → Nat) (v : Nat → Int32) (en : Nat → Nat) (d k : Nat) (st : eSt) : Int32 × eSt := if s k < 7 then (lfV x y z len (s k) (v k) st, st) else evP len row (s k) (evN x y z len row lm s v en d (k + 1) st).1 (evN x y z len row lm s v en d (k + 1) st).2 (evN x y z len row lm s v en d (en (k + 1))) (evN x y z len row lm s v en d (en (en (k + 1))))
theorem evN_B {x y z : Int32} {len : Nat} {row : Nat → Int32} {lm : Nat} {s : Nat → Nat} {v : Nat → Int32} {en : Nat → Nat} {d k : Nat} {st : eSt} (h0 : st.1 = 0) (hu : st.2.1 < lm) : evN x y z len row lm s v en (d + 1) k st = evB x y z len row lm s v en d k (st.1, st.2.1 + 1, st.2.2) := (if_neg (fun e => e h0)).trans (if_pos hu)
theorem evN_3 {x y z : Int32} {len : Nat} {row : Nat → Int32} {lm : Nat} {s : Nat → Nat} {v : Nat → Int32} {en : Nat → Nat} {d k : Nat} {st : eSt} (h0 : st.1 = 0) (hu : ¬ st.2.1 < lm) : evN x y z len row lm s v en (d + 1) k st = (0, ((3, st.2) : eSt)) := (if_neg (fun e => e h0)).trans (if_neg hu)
/-- a truth's value is 0 or 1 -/
theorem evN_t {V : Nat → Nat → Value} {I : Nat → Nat → Int32} {x y z : Int32} {len lm sz : Nat} {row : Nat → Int32} {s : Nat → Nat} {v : Nat → Int32} {en dp : Nat → Nat} (hG : evG V I s v en dp x y z len lm sz) : ∀ (d k : Nat) (st : eSt), k < sz → truN (s k) = 1 → (evN x y z len row lm s v en d k st).2.1 = 0 → (evN x y z len row lm s v en d k st).1 = 0 ∨ (evN x y z len row lm s v en d k st).1 = 1 := by
  intro d
  induction d with
  | zero => intro k st _ _ _; exact .inl rfl
  | succ d ih =>
    intro k st hk ht
    obtain ⟨-, -, -, -, -, -, -, -, hs⟩ := hG
    obtain ⟨-, -, -, -, s20, -, h7, h10, h20, tr1, tr2⟩ := hs k hk
    have h5 : s k = 9 ∨ s k = 15 ∨ s k = 16 ∨ s k = 17 ∨ s k = 18 := by
      unfold truN at ht
      by_cases c : s k = 9 ∨ (15 ≤ s k ∧ s k ≤ 18)
      · omega
      · rw [if_neg c] at ht; omega
    by_cases c0 : st.1 = 0
    · by_cases cu : st.2.1 < lm
      · rw [evN_B c0 cu]
        have e : evB x y z len row lm s v en d k (st.1, st.2.1 + 1, st.2.2) = evP len row (s k) (evN x y z len row lm s v en d (k + 1) (st.1, st.2.1 + 1, st.2.2)).1 (evN x y z len row lm s v en d (k + 1) (st.1, st.2.1 + 1, st.2.2)).2 (evN x y z len row lm s v en d (en (k + 1))) (evN x y z len row lm s v en d (en (en (k + 1)))) := if_neg (by omega)
        rw [e]
        have i1 := ih (k + 1) (st.1, st.2.1 + 1, st.2.2) (h7 (by omega)).1
        generalize evN x y z len row lm s v en d (k + 1) (st.1, st.2.1 + 1, st.2.2) = q at i1 ⊢
        by_cases c1 : q.2.1 ≠ 0
        · have e : evP len row (s k) q.1 q.2 (evN x y z len row lm s v en d (en (k + 1))) (evN x y z len row lm s v en d (en (en (k + 1)))) = (q.1, q.2) := if_pos c1
          rw [e]
          intro h
          exact absurd h c1
        · have q0 : q.2.1 = 0 := Decidable.byContradiction c1
          have ev2 : s k = 17 ∨ s k = 18 → (evR (s k) q.1 (evN x y z len row lm s v en d (en (k + 1)) q.2)).2.1 = 0 → (evR (s k) q.1 (evN x y z len row lm s v en d (en (k + 1)) q.2)).1 = 0 ∨ (evR (s k) q.1 (evN x y z len row lm s v en d (en (k + 1)) q.2)).1 = 1 := fun h78 => by
            have i2 := ih (en (k + 1)) q.2 (h10 (by omega)).1 (tr2 h78)
            have e2 : evR (s k) q.1 (evN x y z len row lm s v en d (en (k + 1)) q.2) = evN x y z len row lm s v en d (en (k + 1)) q.2 := by
              unfold evR
              by_cases c7 : (evN x y z len row lm s v en d (en (k + 1)) q.2).2.1 ≠ 0
              · rw [if_pos c7]
              · rw [if_neg c7, if_pos (by omega)]
            rw [e2]
            exact i2
          unfold evP
          rw [if_neg c1]
          by_cases c17 : s k = 17 ∧ q.1 = 0
          · rw [if_pos c17]
            intro _
            exact .inl c17.2
          · rw [if_neg c17]
            by_cases c18 : s k = 18 ∧ ¬ q.1 = 0
            · rw [if_pos c18]
              intro h
              exact i1 (tr1 (by omega)) h
            · rw [if_neg c18]
              unfold evQ
              by_cases c9 : s k < 10
              · rw [if_pos c9]
                unfold oneV
                rw [if_pos (by omega)]
                intro _
                rcases i1 (tr1 (by omega)) q0 with h | h
                · right; show 1 - q.1 = 1; rw [h]; decide
                · left; show 1 - q.1 = 0; rw [h]; decide
              · rw [if_neg c9, if_neg (by omega), if_neg (by omega)]
                rcases h5 with h | h | h | h | h
                · omega
                · unfold evR
                  by_cases c7 : (evN x y z len row lm s v en d (en (k + 1)) q.2).2.1 ≠ 0
                  · rw [if_pos c7]
                    intro e
                    exact absurd e c7
                  · rw [if_neg c7, if_neg (by omega)]
                    unfold twoV
                    rw [if_neg (by omega), if_neg (by omega), if_neg (by omega), if_pos h]
                    intro _
                    by_cases c : (evN x y z len row lm s v en d (en (k + 1)) q.2).1 ≤ q.1
                    · exact .inl (if_pos c)
                    · exact .inr (if_neg c)
                · unfold evR
                  by_cases c7 : (evN x y z len row lm s v en d (en (k + 1)) q.2).2.1 ≠ 0
                  · rw [if_pos c7]
                    intro e
                    exact absurd e c7
                  · rw [if_neg c7, if_neg (by omega)]
                    unfold twoV
                    rw [if_neg (by omega), if_neg (by omega), if_neg (by omega), if_neg (by omega), if_pos h]
                    intro _
                    by_cases c : ¬ q.1 = (evN x y z len row lm s v en d (en (k + 1)) q.2).1
                    · exact .inl (if_pos c)
                    · exact .inr (if_neg c)
                · exact ev2 (.inl h)
                · exact ev2 (.inr h)
      · rw [evN_3 c0 cu]
        intro h
        exact absurd (show (3 : Int32) = 0 from h) (by decide)
    · have e : evN x y z len row lm s v en (d + 1) k st = (0, st) := if_pos c0
      rw [e]
      intro h
      exact absurd h c0
set_option maxRecDepth 100000 in
set_option maxHeartbeats 4000000 in
/-- a turn at an inner node -/
theorem r_it {V : Nat → Nat → Value} {I : Nat → Nat → Int32} {L : Nat → Nat → Int64} {R : Nat → Nat → Option Nat} {tl : am_H} {N K k D sn : Nat} {st : eSt} {g : Int32} {fr ph on : Nat → Int32} {h2 : am_H} (h0 : st.1 = 0) (hD : D < 130) (hf : fr D = nI k) (hk : k < 300) (hs : I 186 k = nI sn) (h7 : 7 ≤ sn) (h20 : sn ≤ 20) (h : fm_410 (.ref 174) (nI D) (nI k) (nI sn) (fx (gW V st (D + 1) g) (gJ I fr ph on) L R ++ tl) = some (.inl (none, h2))) : fg_404_14 N (K + 1) (.ref 174) (fx (gW V st (D + 1) g) (gJ I fr ph on) L R ++ tl) = fg_404_14 N K (.ref 174) h2 := by
  have ar : arN sn ≠ 0 := by
    unfold arN
    rw [if_neg (by omega)]
    split
    · omega
    · split <;> omega
  have ar3 := ar_le sn
  rw [fg_404_14]
  refine ev_b (a := nI (D + 1)) rfl (ev_f (nI_nle (by omega) (by omega)) (ev_b (a := st.1) rfl (ev_f (fun e => e h0) (ev_b (a := nI (D + 1)) rfl (ev_b (a := Value.ref 213) rfl ?_)))))
  rw [nI_pred]
  refine ev_b (a := nI k) ((ev_a (f := fr) (n := 130) rfl (am_inb_n hD (by omega))).trans (by rw [nI_clamp (by omega), hf])) (ev_b (a := Value.ref 186) rfl (ev_b (a := nI sn) ((qa_186 (by omega)).trans (by rw [← hs]; rfl)) (ev_cI (ar_e sn h20 _) (ev_t (nI_ne0 (by omega) (by omega)) (ev_i rfl (ev_cV h rfl))))))
set_option maxRecDepth 100000 in
set_option maxHeartbeats 4000000 in
/-- a turn at a leaf -/
theorem r_lf {V : Nat → Nat → Value} {I : Nat → Nat → Int32} {L : Nat → Nat → Int64} {R : Nat → Nat → Option Nat} {tl : am_H} {N K k D sn len : Nat} {x y z c : Int32} {st : eSt} {g : Int32} {fr ph on : Nat → Int32} (h51 : V 174 51 = .int x) (h52 : V 174 52 = .int y) (h53 : V 174 53 = .int z) (h54 : V 174 54 = .int (nI len)) (h0 : st.1 = 0) (hD : D < 130) (hf : fr D = nI k) (hk : k < 300) (hs : I 186 k = nI sn) (hv : I 187 k = c) (h7 : sn < 7) : fg_404_14 N (K + 1) (.ref 174) (fx (gW V st (D + 1) g) (gJ I fr ph on) L R ++ tl) = fg_404_14 N K (.ref 174) (fx (gW V st D (lfV x y z len sn c st)) (gJ I fr ph on) L R ++ tl) := by
  have ar : arN sn = 0 := if_pos h7
  rw [fg_404_14]
  refine ev_b (a := nI (D + 1)) rfl (ev_f (nI_nle (by omega) (by omega)) (ev_b (a := st.1) rfl (ev_f (fun e => e h0) (ev_b (a := nI (D + 1)) rfl (ev_b (a := Value.ref 213) rfl ?_)))))
  rw [nI_pred]
  refine ev_b (a := nI k) ((ev_a (f := fr) (n := 130) rfl (am_inb_n hD (by omega))).trans (by rw [nI_clamp (by omega), hf])) (ev_b (a := Value.ref 186) rfl (ev_b (a := nI sn) ((qa_186 (by omega)).trans (by rw [← hs]; rfl)) (ev_cI (ar_e sn (by omega) _) (ev_f (fun e => e (by rw [ar]; rfl)) (ev_b (a := Value.ref 187) rfl (ev_b (a := c) ((qa_187 (by omega)).trans (by rw [← hv]; rfl)) (ev_i rfl (ev_cI (r_408 h51 h52 h53 h54 h7) (ev_i rfl (ev_cV r_409 rfl))))))))))
