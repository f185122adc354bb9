/-! ===== running a tree: the reference comes to the same ===== -/
theorem goR_1 {V : Nat → Nat → Value} {I : Nat → Nat → Int32} {L : Nat → Nat → Int64} {R : Nat → Nat → Option Nat} {tl : am_H} {N D U : Nat} {E : Int32 × eSt} {fr ph on fr' ph' on' : Nat → Int32} {h0 : am_H} (hu : E.2.2.1 = U) (h : ∀ K, fg_404_14 N (K + 1) (.ref 174) h0 = fg_404_14 N K (.ref 174) (fx (gW V E.2 D E.1) (gJ I fr' ph' on') L R ++ tl)) (ag : ∀ j, j < D → fr' j = fr j ∧ ph' j = ph j ∧ on' j = on j) : goR N V I L R tl E D U fr ph on h0 := ⟨1, D, E.1, fr', ph', on', by omega, by omega, h, fun _ => ⟨rfl, rfl, ag⟩⟩
theorem goR_c {V : Nat → Nat → Value} {I : Nat → Nat → Int32} {L : Nat → Nat → Int64} {R : Nat → Nat → Option Nat} {tl : am_H} {N D U : Nat} {E1 E : Int32 × eSt} {fr ph on fr0 ph0 on0 : Nat → Int32} {h0 h1 : am_H} (h01 : ∀ K, fg_404_14 N (K + 1) (.ref 174) h0 = fg_404_14 N K (.ref 174) h1) (g1 : goT N V I L R tl E1 (D + 1) U fr ph on h1) (hf : E1.2.1 ≠ 0 → E.2 = E1.2) (hn : E1.2.1 = 0 → ∀ fr' ph' on' : Nat → Int32, (∀ j, j < D + 1 → fr' j = fr j ∧ ph' j = ph j ∧ on' j = on j) → goR N V I L R tl E D E1.2.2.1 fr0 ph0 on0 (fx (gW V E1.2 (D + 1) E1.1) (gJ I fr' ph' on') L R ++ tl)) : goR N V I L R tl E D U fr0 ph0 on0 h0 := by
  obtain ⟨t, D', g', fr', ph', on', u1, t1, t2, r1, r2⟩ := g1
  by_cases c : E1.2.1 = 0
  · obtain ⟨rfl, rfl, ag⟩ := r2 c
    have t2 := t2 c
    obtain ⟨t', D2, g2, fr2, ph2, on2, u2, b2, r3, r4⟩ := hn c fr' ph' on' ag
    refine ⟨t' + t + 1, D2, g2, fr2, ph2, on2, by omega, by omega, fun K => ?_, r4⟩
    rw [show K + (t' + t + 1) = K + t' + t + 1 by omega, h01, r1, r3]
  · have e := hf c
    refine ⟨t + 1, D', g', fr', ph', on', by rw [e]; exact u1, by rw [e]; omega, fun K => ?_, fun h => absurd (by rw [← e]; exact h) c⟩
    rw [show K + (t + 1) = K + t + 1 by omega, h01, r1, e]
theorem fld_f {row : Nat → Int32} {ev : eSt → Int32 × eSt} {m i : Nat} {r : Int32} {st : eSt} (h : st.1 ≠ 0) : fld row ev m i r st = (r, st) := by
  cases m with
  | zero => rfl
  | succ m => exact if_pos h
set_option maxRecDepth 100000 in
set_option maxHeartbeats 4000000 in
theorem r_run {V : Nat → Nat → Value} {I : Nat → Nat → Int32} {L : Nat → Nat → Int64} {R : Nat → Nat → Option Nat} {tl : am_H} {N : Nat} {x y z : Int32} {len lm sz : Nat} {s : Nat → Nat} {v : Nat → Int32} {en dp : Nat → Nat} (hG : evG V I s v en dp x y z len lm sz) : ∀ (d k D : Nat) (st : eSt) (g : Int32) (fr ph on : Nat → Int32), dp k + d = 12 → D + 1 ≤ dp k → k < sz → st.1 = 0 → st.2.1 ≤ lm → fr D = nI k → ph D = 0 → goR N V I L R tl (evB x y z len (I 212) lm s v en d k st) D st.2.1 fr ph on (fx (gW V st (D + 1) g) (gJ I fr ph on) L R ++ tl) := by
  have hG' := hG
  obtain ⟨h51, h52, h53, h54, hlen, hl, hlm, hsz, hs⟩ := hG
  have leaf : ∀ (d k D : Nat) (st : eSt) (g : Int32) (fr ph on : Nat → Int32), dp k + d = 12 → D + 1 ≤ dp k → k < sz → st.1 = 0 → fr D = nI k → s k < 7 → goR N V I L R tl (evB x y z len (I 212) lm s v en d k st) D st.2.1 fr ph on (fx (gW V st (D + 1) g) (gJ I fr ph on) L R ++ tl) := fun d k D st g fr ph on hd hD hk h0 hf h7 => by
    obtain ⟨s1, s2, -, -, -, s6, -⟩ := hs k hk
    have e : evB x y z len (I 212) lm s v en d k st = (lfV x y z len (s k) (v k) st, st) := if_pos h7
    rw [e]
    exact goR_1 rfl (fun K => r_lf h51 h52 h53 h54 h0 (by omega) hf (by omega) s1 s2 h7) (fun j _ => ⟨rfl, rfl, rfl⟩)
  intro d
  induction d with
  | zero =>
    intro k D st g fr ph on hd hD hk h0 hu hf hp
    by_cases c : s k < 7
    · exact leaf 0 k D st g fr ph on hd hD hk h0 hf c
    · obtain ⟨-, -, -, -, -, -, s7, -⟩ := hs k hk
      obtain ⟨a1, a2⟩ := s7 (by omega)
      obtain ⟨-, -, -, -, -, b6, -⟩ := hs (k + 1) a1
      omega
  | succ d ih =>
    intro k D st g fr ph on hd hD hk h0 hu hf hp
    by_cases c : s k < 7
    · exact leaf (d + 1) k D st g fr ph on hd hD hk h0 hf c
    · -- entering a part
      have ent : ∀ (c D : Nat) (st : eSt) (g : Int32) (fr ph on : Nat → Int32), c < sz → dp c + d = 12 → D + 1 ≤ dp c → st.1 = 0 → st.2.1 ≤ lm → ∃ h1, fm_406 (.ref 174) (nI c) (fx (gW V st D g) (gJ I fr ph on) L R ++ tl) = some (.inl (none, h1)) ∧ goT N V I L R tl (evN x y z len (I 212) lm s v en (d + 1) c st) D st.2.1 fr ph on h1 := fun c D st g fr ph on hc hdc hDc h0 hu => by
        have q6 := (hs c hc).2.2.2.2.2.1
        by_cases cu : st.2.1 < lm
        · refine ⟨_, r_406 hl hlm h0 cu (by omega), ?_⟩
          rw [evN_B h0 cu]
          obtain ⟨t, D', g', fr', ph', on', u1, t1, r1, r2⟩ := ih c D (st.1, st.2.1 + 1, st.2.2) g (upd fr D (nI c)) (upd ph D 0) on hdc hDc hc h0 cu upd_eq upd_eq
          have u1 : st.2.1 + 1 ≤ (evB x y z len (I 212) lm s v en d c (st.1, st.2.1 + 1, st.2.2)).2.2.1 := u1
          have t1 : t ≤ 2 * ((evB x y z len (I 212) lm s v en d c (st.1, st.2.1 + 1, st.2.2)).2.2.1 - (st.2.1 + 1)) + 1 := t1
          refine ⟨t, D', g', fr', ph', on', by omega, by omega, fun _ => by omega, r1, fun h => ?_⟩
          obtain ⟨w1, w2, w3⟩ := r2 h
          refine ⟨w1, w2, fun j hj => ?_⟩
          obtain ⟨v1, v2, v3⟩ := w3 j hj
          exact ⟨v1.trans (upd_ne (by omega)), v2.trans (upd_ne (by omega)), v3⟩
        · refine ⟨_, r_406n hl h0 (by omega), ?_⟩
          rw [evN_3 h0 cu]
          exact ⟨0, D, g, fr, ph, on, Nat.le_refl _, by omega, fun h => absurd (show (3 : Int32) = 0 from h) (by decide), fun K => rfl, fun h => absurd (show (3 : Int32) = 0 from h) (by decide)⟩
      obtain ⟨s1, s2, s3, s4, s5, s6, s7, s10, s20, tr1, tr2⟩ := hs k hk
      obtain ⟨k1, dp1⟩ := s7 (by omega)
      obtain ⟨-, -, e1, e1l, -⟩ := hs (k + 1) k1
      have eB : evB x y z len (I 212) lm s v en (d + 1) k st = evP len (I 212) (s k) (evN x y z len (I 212) lm s v en (d + 1) (k + 1) st).1 (evN x y z len (I 212) lm s v en (d + 1) (k + 1) st).2 (evN x y z len (I 212) lm s v en (d + 1) (en (k + 1))) (evN x y z len (I 212) lm s v en (d + 1) (en (en (k + 1)))) := if_neg c
      have tq := evN_t (row := I 212) hG' (d + 1) (k + 1) st k1
      have uq := evN_u (x := x) (y := y) (z := z) (len := len) (row := I 212) (lm := lm) (s := s) (v := v) (en := en) (d + 1) (k + 1) st hu
      obtain ⟨h1, f1, g1⟩ := ent (k + 1) (D + 1) st g fr (upd ph D (nI 1)) on k1 (by omega) (by omega) h0 hu
      rw [eB]
      generalize evN x y z len (I 212) lm s v en (d + 1) (k + 1) st = q at tq uq g1 ⊢
      refine goR_c (fun K => r_it h0 (by omega) hf (by omega) s1 (by omega) s5 (p410z (by omega) hp f1)) g1 (fun hq => ?_) (fun q0 fr' ph' on' ag => ?_)
      · have e : evP len (I 212) (s k) q.1 q.2 (evN x y z len (I 212) lm s v en (d + 1) (en (k + 1))) (evN x y z len (I 212) lm s v en (d + 1) (en (en (k + 1)))) = (q.1, q.2) := if_pos hq
        rw [e]
      · have hf' : fr' D = nI k := (ag D (by omega)).1.trans hf
        have hp' : ph' D = nI 1 := (ag D (by omega)).2.1.trans upd_eq
        have ag0 : ∀ j, j < D → fr' j = fr j ∧ ph' j = ph j ∧ on' j = on j := fun j hj => ⟨(ag j (by omega)).1, (ag j (by omega)).2.1.trans (upd_ne (by omega)), (ag j (by omega)).2.2⟩
        have agu : ∀ (w1 w2 : Int32) (j : Nat), j < D → fr' j = fr j ∧ upd ph' D w1 j = ph j ∧ upd on' D w2 j = on j := fun w1 w2 j hj => ⟨(ag0 j hj).1, (upd_ne (by omega)).trans (ag0 j hj).2.1, (upd_ne (by omega)).trans (ag0 j hj).2.2⟩
        -- a turn with the second part's first look
        have it1 : ∀ {h2 : am_H}, fg_410_47 (.ref 174) (nI D) (nI k) (nI (s k)) 1 (fx (gW V q.2 (D + 1) q.1) (gJ I fr' (upd ph' D (nI 2)) (upd on' D q.1)) L R ++ tl) = some (.inl (none, h2)) → ∀ K, fg_404_14 N (K + 1) (.ref 174) (fx (gW V q.2 (D + 1) q.1) (gJ I fr' ph' on') L R ++ tl) = fg_404_14 N K (.ref 174) h2 := fun h K => r_it q0 (by omega) hf' (by omega) s1 (by omega) s5 (p410a (by omega) hp' h)
        have pe : ∀ {X : Int32 × eSt}, ¬ (s k = 17 ∧ q.1 = 0) → ¬ (s k = 18 ∧ ¬ q.1 = 0) → evQ len (I 212) (s k) q.1 q.2 (evN x y z len (I 212) lm s v en (d + 1) (en (k + 1))) (evN x y z len (I 212) lm s v en (d + 1) (en (en (k + 1)))) = X → evP len (I 212) (s k) q.1 q.2 (evN x y z len (I 212) lm s v en (d + 1) (en (k + 1))) (evN x y z len (I 212) lm s v en (d + 1) (en (en (k + 1)))) = X := fun a b h => (if_neg (fun e => e q0)).trans ((if_neg a).trans ((if_neg b).trans h))
        -- behind a second part: the last turn
        have fin : ∀ (E2 : Int32 × eSt), E2.2.1 = 0 → ∀ (fr2 ph2 on2 : Nat → Int32), (∀ j, j < D + 1 → fr2 j = fr' j ∧ ph2 j = upd ph' D (nI 2) j ∧ on2 j = upd on' D q.1 j) → ∀ (X : Int32 × eSt), X.2.2.1 = E2.2.2.1 → fg_410_47 (.ref 174) (nI D) (nI k) (nI (s k)) (nI 2) (fx (gW V E2.2 (D + 1) E2.1) (gJ I fr2 (upd ph2 D (nI 3)) on2) L R ++ tl) = some (.inl (none, (fx (gW V X.2 D X.1) (gJ I fr2 (upd ph2 D (nI 3)) on2) L R ++ tl))) → goR N V I L R tl X D E2.2.2.1 fr ph on (fx (gW V E2.2 (D + 1) E2.1) (gJ I fr2 ph2 on2) L R ++ tl) := fun E2 e0 fr2 ph2 on2 ag2 X hX hz => by
          have hf2 : fr2 D = nI k := (ag2 D (by omega)).1.trans hf'
          have hp2 : ph2 D = nI 2 := (ag2 D (by omega)).2.1.trans upd_eq
          refine goR_1 hX (fun K => r_it e0 (by omega) hf2 (by omega) s1 (by omega) s5 (p410b (by omega) (by omega) (by omega) hp2 hz)) (fun j hj => ?_)
          obtain ⟨v1, v2, v3⟩ := ag2 j (by omega)
          obtain ⟨z1, z2, z3⟩ := agu (nI 2) q.1 j hj
          exact ⟨v1.trans z1, (upd_ne (by omega)).trans (v2.trans z2), v3.trans z3⟩
        have on2D : ∀ (fr2 ph2 on2 : Nat → Int32), (∀ j, j < D + 1 → fr2 j = fr' j ∧ ph2 j = upd ph' D (nI 2) j ∧ on2 j = upd on' D q.1 j) → on2 D = q.1 := fun fr2 ph2 on2 ag2 => (ag2 D (by omega)).2.2.trans upd_eq
        by_cases c10 : s k < 10
        · rw [pe (fun e => by omega) (fun e => by omega) (if_pos c10)]
          exact goR_1 oneV_u (it1 (p47_1 (h2 := []) h54 hlen (by omega) upd_eq (by omega))) (agu _ _)
        · obtain ⟨k2, dp2⟩ := s10 (by omega)
          obtain ⟨-, -, e2, e2l, -⟩ := hs (en (k + 1)) k2
          by_cases c19 : s k = 19
          · rw [pe (fun e => by omega) (fun e => by omega) ((if_neg c10).trans (if_pos c19))]
            -- the fold's turns
            have fo : ∀ (m i : Nat) (r : Int32) (w : eSt) (fr2 ph2 on2 : Nat → Int32), i + m = len → w.1 = 0 → w.2.1 ≤ lm → fr2 D = nI k → ph2 D = nI (i + 1) → (∀ j, j < D → fr2 j = fr j ∧ ph2 j = ph j ∧ on2 j = on j) → goR N V I L R tl (fld (I 212) (evN x y z len (I 212) lm s v en (d + 1) (en (k + 1))) m i r w) D w.2.1 fr ph on (fx (gW V w (D + 1) r) (gJ I fr2 ph2 on2) L R ++ tl) := by
              intro m
              induction m with
              | zero =>
                intro i r w fr2 ph2 on2 hi w0 wu hf2 hp2 ag2
                by_cases c0 : i = 0
                · subst c0
                  have hz := (p47_19 (s := 19) (V := V) (I := I) (L := L) (R := R) (tl := tl) (D := D) (k := k) (st := w) (g := r) (fr := fr2) (ph := upd ph2 D (nI 2)) (on := upd on2 D r) (h2 := []) (i := 0) h54 hlen (by omega) e1 (by omega) (by omega) (by omega)).1 (by omega)
                  rw [← c19] at hz
                  exact goR_1 rfl (fun K => r_it w0 (by omega) hf2 (by omega) s1 (by omega) s5 (p410a (by omega) hp2 hz)) (fun j hj => ⟨(ag2 j hj).1, (upd_ne (by omega)).trans (ag2 j hj).2.1, (upd_ne (by omega)).trans ((upd_ne (by omega)).trans (ag2 j hj).2.2)⟩)
                · have hz := (p47_19 (s := 19) (V := V) (I := I) (L := L) (R := R) (tl := tl) (D := D) (k := k) (st := w) (g := r) (fr := fr2) (ph := upd ph2 D (nI (i + 1 + 1))) (on := on2) (h2 := []) (i := i) h54 hlen (by omega) e1 (by omega) (by omega) (by omega)).1 (by omega)
                  rw [← c19] at hz
                  exact goR_1 rfl (fun K => r_it w0 (by omega) hf2 (by omega) s1 (by omega) s5 (p410b (q := i + 1) (by omega) (by omega) (by omega) hp2 hz)) (fun j hj => ⟨(ag2 j hj).1, (upd_ne (by omega)).trans (ag2 j hj).2.1, (upd_ne (by omega)).trans (ag2 j hj).2.2⟩)
              | succ m ihm =>
                intro i r w fr2 ph2 on2 hi w0 wu hf2 hp2 ag2
                have ef : fld (I 212) (evN x y z len (I 212) lm s v en (d + 1) (en (k + 1))) (m + 1) i r w = fld (I 212) (evN x y z len (I 212) lm s v en (d + 1) (en (k + 1))) m (i + 1) (evN x y z len (I 212) lm s v en (d + 1) (en (k + 1)) (w.1, w.2.1, r, I 212 i)).1 (evN x y z len (I 212) lm s v en (d + 1) (en (k + 1)) (w.1, w.2.1, r, I 212 i)).2 := if_neg (fun e => e w0)
                have uw := evN_u (x := x) (y := y) (z := z) (len := len) (row := I 212) (lm := lm) (s := s) (v := v) (en := en) (d + 1) (en (k + 1)) (w.1, w.2.1, r, I 212 i) wu
                rw [ef]
                have rest : ∀ on3 : Nat → Int32, (∀ j, j < D → on3 j = on j) → ∃ h2, fm_406 (.ref 174) (nI (en (k + 1))) (fx (gW V ((w.1, w.2.1, r, I 212 i) : eSt) (D + 1) r) (gJ I fr2 (upd ph2 D (nI (i + 1 + 1))) on3) L R ++ tl) = some (.inl (none, h2)) ∧ ((∀ K, fg_404_14 N (K + 1) (.ref 174) (fx (gW V w (D + 1) r) (gJ I fr2 ph2 on2) L R ++ tl) = fg_404_14 N K (.ref 174) h2) → goR N V I L R tl (fld (I 212) (evN x y z len (I 212) lm s v en (d + 1) (en (k + 1))) m (i + 1) (evN x y z len (I 212) lm s v en (d + 1) (en (k + 1)) (w.1, w.2.1, r, I 212 i)).1 (evN x y z len (I 212) lm s v en (d + 1) (en (k + 1)) (w.1, w.2.1, r, I 212 i)).2) D w.2.1 fr ph on (fx (gW V w (D + 1) r) (gJ I fr2 ph2 on2) L R ++ tl)) := fun on3 ag3 => by
                  obtain ⟨h2, f2, g2⟩ := ent (en (k + 1)) (D + 1) (w.1, w.2.1, r, I 212 i) r fr2 (upd ph2 D (nI (i + 1 + 1))) on3 k2 (by omega) (by omega) w0 wu
                  refine ⟨h2, f2, fun hK => ?_⟩
                  generalize evN x y z len (I 212) lm s v en (d + 1) (en (k + 1)) (w.1, w.2.1, r, I 212 i) = E2 at uw g2 ⊢
                  refine goR_c hK g2 (fun hq => by rw [fld_f hq]) (fun e0 fr4 ph4 on4 ag4 => ?_)
                  exact ihm (i + 1) E2.1 E2.2 fr4 ph4 on4 (by omega) e0 uw ((ag4 D (by omega)).1.trans hf2) ((ag4 D (by omega)).2.1.trans upd_eq) (fun j hj => ⟨(ag4 j (by omega)).1.trans (ag2 j hj).1, (ag4 j (by omega)).2.1.trans ((upd_ne (by omega)).trans (ag2 j hj).2.1), (ag4 j (by omega)).2.2.trans (ag3 j hj)⟩)
                by_cases c0 : i = 0
                · subst c0
                  obtain ⟨h2, f2, r2⟩ := rest (upd (upd on2 D r) D r) (fun j hj => (upd_ne (by omega)).trans ((upd_ne (by omega)).trans (ag2 j hj).2.2))
                  have hz := (p47_19 (s := 19) (V := V) (I := I) (L := L) (R := R) (tl := tl) (D := D) (k := k) (st := w) (g := r) (fr := fr2) (ph := upd ph2 D (nI 2)) (on := upd on2 D r) (h2 := h2) (i := 0) h54 hlen (by omega) e1 (by omega) (by omega) (by omega)).2 (by omega) f2
                  rw [← c19] at hz
                  exact r2 (fun K => r_it w0 (by omega) hf2 (by omega) s1 (by omega) s5 (p410a (by omega) hp2 hz))
                · obtain ⟨h2, f2, r2⟩ := rest (upd on2 D r) (fun j hj => (upd_ne (by omega)).trans (ag2 j hj).2.2)
                  have hz := (p47_19 (s := 19) (V := V) (I := I) (L := L) (R := R) (tl := tl) (D := D) (k := k) (st := w) (g := r) (fr := fr2) (ph := upd ph2 D (nI (i + 1 + 1))) (on := on2) (h2 := h2) (i := i) h54 hlen (by omega) e1 (by omega) (by omega) (by omega)).2 (by omega) f2
                  rw [← c19] at hz
                  exact r2 (fun K => r_it w0 (by omega) hf2 (by omega) s1 (by omega) s5 (p410b (q := i + 1) (by omega) (by omega) (by omega) hp2 hz))
            exact fo len 0 q.1 q.2 fr' ph' on' (by omega) q0 uq hf' hp' ag0
          · have u2 := evN_u (x := x) (y := y) (z := z) (len := len) (row := I 212) (lm := lm) (s := s) (v := v) (en := en) (d + 1) (en (k + 1)) q.2 uq
            obtain ⟨h2, f2, g2⟩ := ent (en (k + 1)) (D + 1) q.2 q.1 fr' (upd ph' D (nI 2)) (upd on' D q.1) k2 (by omega) (by omega) q0 uq
            by_cases c16 : s k ≤ 16
            · rw [pe (fun e => by omega) (fun e => by omega) ((if_neg c10).trans ((if_neg c19).trans (if_neg (fun e => by omega))))]
              generalize evN x y z len (I 212) lm s v en (d + 1) (en (k + 1)) q.2 = E2 at u2 g2 ⊢
              refine goR_c (it1 (p47_2e e1 (by omega) (by omega) (by omega) c16 f2)) g2 (fun hq => by rw [show evR (s k) q.1 E2 = E2 from if_pos hq]) (fun e0 fr2 ph2 on2 ag2 => ?_)
              rw [show evR (s k) q.1 E2 = twoV (s k) q.1 E2.1 E2.2 from (if_neg (fun e => e e0)).trans (if_neg (by omega))]
              exact fin E2 e0 fr2 ph2 on2 ag2 _ twoV_u (p47_2l (h2 := []) (by omega) (on2D fr2 ph2 on2 ag2) (by omega) c16)
            · have goE : ∀ (h2 : am_H) (E2 : Int32 × eSt), fg_410_47 (.ref 174) (nI D) (nI k) (nI (s k)) 1 (fx (gW V q.2 (D + 1) q.1) (gJ I fr' (upd ph' D (nI 2)) (upd on' D q.1)) L R ++ tl) = some (.inl (none, h2)) → goT N V I L R tl E2 (D + 1) q.2.2.1 fr' (upd ph' D (nI 2)) (upd on' D q.1) h2 → goR N V I L R tl E2 D q.2.2.1 fr ph on (fx (gW V q.2 (D + 1) q.1) (gJ I fr' ph' on') L R ++ tl) := fun h2 E2 hh g2 => by
                refine goR_c (it1 hh) g2 (fun _ => rfl) (fun e0 fr2 ph2 on2 ag2 => ?_)
                exact fin E2 e0 fr2 ph2 on2 ag2 _ rfl (p47_l (h2 := []) (by omega) e1 (by omega) (by omega))
              have eR : evR (s k) q.1 (evN x y z len (I 212) lm s v en (d + 1) (en (k + 1)) q.2) = evN x y z len (I 212) lm s v en (d + 1) (en (k + 1)) q.2 := by
                unfold evR
                by_cases c7 : (evN x y z len (I 212) lm s v en (d + 1) (en (k + 1)) q.2).2.1 ≠ 0
                · rw [if_pos c7]
                · rw [if_neg c7, if_pos (by omega)]
              have t01 := tq (tr1 (by omega)) q0
              by_cases c17 : s k = 17
              · have pp := p47_s (V := V) (I := I) (L := L) (R := R) (tl := tl) (k := k) (st := q.2) (g := q.1) (fr := fr') (ph := upd ph' D (nI 2)) (on := upd on' D q.1) (h2 := h2) (a := q.1) (w := 1) (s := s k) (D := D) (by omega) upd_eq (.inl ⟨c17, rfl⟩) e1 (by omega) (by omega)
                by_cases ca : q.1 = 0
                · rw [show evP len (I 212) (s k) q.1 q.2 (evN x y z len (I 212) lm s v en (d + 1) (en (k + 1))) (evN x y z len (I 212) lm s v en (d + 1) (en (en (k + 1)))) = (q.1, q.2) from (if_neg (fun e => e q0)).trans (if_pos ⟨c17, ca⟩)]
                  exact goR_1 rfl (it1 (pp.2 (by rw [ca]; decide))) (agu _ _)
                · rw [pe (fun e => ca e.2) (fun e => by omega) ((if_neg c10).trans ((if_neg c19).trans ((if_neg (fun e => by omega)).trans eR)))]
                  exact goE h2 _ (pp.1 (t01.resolve_left ca) f2) g2
              · by_cases c18 : s k = 18
                · have pp := p47_s (V := V) (I := I) (L := L) (R := R) (tl := tl) (k := k) (st := q.2) (g := q.1) (fr := fr') (ph := upd ph' D (nI 2)) (on := upd on' D q.1) (h2 := h2) (a := q.1) (w := 0) (s := s k) (D := D) (by omega) upd_eq (.inr ⟨c18, rfl⟩) e1 (by omega) (by omega)
                  by_cases ca : q.1 = 0
                  · rw [pe (fun e => c17 e.1) (fun e => e.2 ca) ((if_neg c10).trans ((if_neg c19).trans ((if_neg (fun e => by omega)).trans eR)))]
                    exact goE h2 _ (pp.1 ca f2) g2
                  · rw [show evP len (I 212) (s k) q.1 q.2 (evN x y z len (I 212) lm s v en (d + 1) (en (k + 1))) (evN x y z len (I 212) lm s v en (d + 1) (en (en (k + 1)))) = (q.1, q.2) from (if_neg (fun e => e q0)).trans ((if_neg (fun e => c17 e.1)).trans (if_pos ⟨c18, ca⟩))]
                    exact goR_1 rfl (it1 (pp.2 ca)) (agu _ _)
                · have c20 : s k = 20 := by omega
                  obtain ⟨k3, dp3⟩ := s20 c20
                  by_cases ca : q.1 = 0
                  · rw [pe (fun e => c17 e.1) (fun e => c18 e.1) ((if_neg c10).trans ((if_neg c19).trans (if_pos ⟨c20, ca⟩)))]
                    obtain ⟨h3, f3, g3⟩ := ent (en (en (k + 1))) (D + 1) q.2 q.1 fr' (upd ph' D (nI 2)) (upd on' D q.1) k3 (by omega) (by omega) q0 uq
                    refine goE h3 _ ?_ g3
                    rw [c20]
                    exact p47_20 (s := 20) (a := q.1) (by omega) upd_eq e1 (by omega) (by omega) e2 (by omega) (by omega) (by rw [if_neg (by rw [ca]; decide)]; exact f3)
                  · rw [pe (fun e => c17 e.1) (fun e => c18 e.1) ((if_neg c10).trans ((if_neg c19).trans ((if_neg (fun e => ca e.2)).trans eR)))]
                    refine goE h2 _ ?_ g2
                    rw [c20]
                    exact p47_20 (s := 20) (a := q.1) (e2 := en (en (k + 1))) (by omega) upd_eq e1 (by omega) (by omega) e2 (by omega) (by omega) (by rw [if_pos (t01.resolve_left ca)]; exact f2)
