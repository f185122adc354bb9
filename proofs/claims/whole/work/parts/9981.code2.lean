/-! ===== running code: the class ===== -/
/-- what both sides need of code: sorts, arguments, heights -/
def cdO (sz : Nat) (s a : Nat → Nat) (v : Nat → Int32) (ht : Nat → Nat) : Prop := sz ≤ 60 ∧ 1 ≤ sz ∧ ht 0 = 0 ∧ ht sz = 1 ∧ ∀ k, k < sz → s k ≤ 18 ∧ tkN (s k) ≤ ht k ∧ ht k - tkN (s k) + ptN (s k) ≤ 8 ∧ (s k ≠ 17 → ht (k + 1) = ht k - tkN (s k) + ptN (s k)) ∧ (17 ≤ s k → v k = nI (a k) ∧ k + 1 + a k ≤ sz ∧ ht (k + 1 + a k) = ht k - tkN (s k) + ptN (s k))
def cdH (V : Nat → Nat → Value) (I : Nat → Nat → Int32) (tl : am_H) (a0 it ln sz m0 : Nat) (f : Nat → Int32) (s : Nat → Nat) (v : Nat → Int32) (x y z : Int32) (len lm : Nat) : Prop := prA V I tl a0 it 1 ln sz m0 f ∧ a0 ≠ 16 ∧ it ≠ 26 ∧ V 16 4 = .ref a0 ∧ V 16 0 = .int (nI lm) ∧ lm ≤ 2000 ∧ sz * wdN 1 ≤ m0 ∧ m0 ≤ 1000 ∧ V 16 6 = .int x ∧ V 16 7 = .int y ∧ V 16 8 = .int z ∧ V 16 10 = .int (nI len) ∧ len ≤ 8 ∧ ∀ k, k < sz → f (k * 2) = nI (s k) ∧ f (k * 2 + 1) = v k
theorem cN_le {sz : Nat} {s a : Nat → Nat} {v : Nat → Int32} {ht : Nat → Nat} {k : Nat} {g : Nat → Int32} (h : cdO sz s a v ht) (hk : k < sz) : k < cN (s k) (a k) (ht k) k g ∧ cN (s k) (a k) (ht k) k g ≤ sz ∧ ht (cN (s k) (a k) (ht k) k g) = ht k - tkN (s k) + ptN (s k) := by
  obtain ⟨-, -, -, -, hc⟩ := h
  obtain ⟨h1, h2, h3, h4, h5⟩ := hc k hk
  unfold cN
  by_cases c : s k = 17 ∨ (s k = 18 ∧ g (ht k - 1) = 0)
  · rw [if_pos c]
    obtain ⟨w1, w2, w3⟩ := h5 (by omega)
    exact ⟨by omega, w2, w3⟩
  · rw [if_neg c]
    exact ⟨by omega, by omega, h4 (fun e => c (.inl e))⟩
set_option maxRecDepth 100000 in
set_option maxHeartbeats 800000 in
theorem c_282 {V : Nat → Nat → Value} {I : Nat → Nat → Int32} {L : Nat → Nat → Int64} {R : Nat → Nat → Option Nat} {tl : am_H} {N k s a T t : Nat} {c : Int32} {st : eSt} {g : Nat → Int32} {rc : Value → Int32 → Int32 → am_H → Option am_O} (hs : s ≤ 18) (hT : tkN s ≤ T) (hT8 : T ≤ 8) (ha : 17 ≤ s → c = nI a) : fg_123_282 N rc (.ref 16) (nI k) (nI t) (nI s) c (fx (hW V T st) (iup I 26 g) L R ++ tl) = rc (.ref 16) (nI (cN s a T k g)) (nI (t + 1)) (fx (hW V (T - tkN s + ptN s) st) (iup I 26 g) L R ++ tl) := by
  have ne : ∀ b, b < 100 → s ≠ b → ¬ nI s = nI b := fun b hb h e => h ((nI_eq (by omega) (by omega)).mp e)
  have k0 : fg_123_323 N rc (.ref 16) (nI k) (nI t) c (fx (hW V (T - tkN s + ptN s) st) (iup I 26 g) L R ++ tl) = rc (.ref 16) (nI (k + 1)) (nI (t + 1)) (fx (hW V (T - tkN s + ptN s) st) (iup I 26 g) L R ++ tl) := by
    unfold fg_123_323 fg_123_324 fg_123_340
    rw [nI_1, nI_1]
    exact ev_t rfl rfl
  have k1 : 17 ≤ s → fg_123_319 N rc (.ref 16) (nI k) (nI t) c (fx (hW V (T - tkN s + ptN s) st) (iup I 26 g) L R ++ tl) = rc (.ref 16) (nI (k + 1 + a)) (nI (t + 1)) (fx (hW V (T - tkN s + ptN s) st) (iup I 26 g) L R ++ tl) := fun h => by
    unfold fg_123_319 fg_123_324 fg_123_340
    rw [ha h, show (1 : Int32) + nI a = nI (1 + a) from nI_add 1 a, nI_add, nI_1, nI_1, show k + (1 + a) = k + 1 + a by omega]
    exact ev_f (by decide) rfl
  unfold fg_123_282
  refine ev_b (a := nI T) rfl (ev_cI (pe_55 _ _) ?_)
  rw [gr55 (by omega) hT]
  refine ev_b (a := (fx (hW V (T - tkN s + ptN s) st) (iup I 26 g) L R ++ tl)) (ev_p rfl rfl rfl rfl) ?_
  by_cases c17 : s = 17
  · rw [show cN s a T k g = k + 1 + a from if_pos (.inl c17)]
    exact ev_t (by rw [c17]; rfl) (k1 (by omega))
  · refine ev_f (ne 17 (by omega) c17) ?_
    by_cases c18 : s = 18
    · refine ev_f (fun e => e (by rw [c18]; rfl)) ?_
      have t1 : T - tkN s + ptN s = T - 1 := by rw [c18]; rfl
      have t2 : 1 ≤ T := by rw [c18] at hT; exact hT
      refine ev_b (a := Value.ref 26) rfl (ev_b (a := nI (T - tkN s + ptN s)) rfl (ev_b (a := g (T - 1)) ((ev_a (f := g) (n := 8) rfl (am_inb_n (by omega) (by omega))).trans (by rw [nI_clamp (by omega), t1])) ?_))
      by_cases c0 : g (T - 1) = 0
      · rw [show cN s a T k g = k + 1 + a from if_pos (.inr ⟨c18, c0⟩)]
        exact ev_f (fun e => e c0) (k1 (by omega))
      · rw [show cN s a T k g = k + 1 from if_neg (fun e => e.elim c17 (fun e => c0 e.2))]
        exact ev_t c0 k0
    · rw [show cN s a T k g = k + 1 from if_neg (fun e => e.elim c17 (fun e => c18 e.1))]
      exact ev_t (ne 18 (by omega) c18) k0
set_option maxRecDepth 100000 in
set_option maxHeartbeats 800000 in
theorem c_ins {V : Nat → Nat → Value} {I : Nat → Nat → Int32} {L : Nat → Nat → Int64} {R : Nat → Nat → Option Nat} {tl : am_H} {N K a0 it ln sz m0 lm len k t T : Nat} {f : Nat → Int32} {s a : Nat → Nat} {v : Nat → Int32} {ht : Nat → Nat} {x y z : Int32} {st : eSt} {g : Nat → Int32} (hE : cdH V I tl a0 it ln sz m0 f s v x y z len lm) (hO : cdO sz s a v ht) (hk : k < sz) (ht8 : T = ht k) (h8 : T ≤ 8) (h0 : st.1 = 0) (hu : st.2.1 < lm) (htn : t < 60) : fg_123_9 N (K + 1) (.ref 16) (nI k) (nI t) (fx (hW V T st) (iup I 26 g) L R ++ tl) = fg_123_9 N K (.ref 16) (nI (cN (s k) (a k) T k (cdS x y z len (I 25) (s k) (v k) T g (st.1, st.2.1 + 1, st.2.2)).1)) (nI (t + 1)) (fx (hW V (T - tkN (s k) + ptN (s k)) (cdS x y z len (I 25) (s k) (v k) T g (st.1, st.2.1 + 1, st.2.2)).2) (iup I 26 (cdS x y z len (I 25) (s k) (v k) T g (st.1, st.2.1 + 1, st.2.2)).1) L R ++ tl) := by
  obtain ⟨hp, ha, hit, h4, hl, hlm, hm0, hm1, h6, h7, h8', h10, hlen, hs⟩ := hE
  obtain ⟨hsz, -, -, -, hc⟩ := hO
  obtain ⟨q1, q2, q3, q4, q5⟩ := hc k hk
  obtain ⟨s1, s2⟩ := hs k hk
  obtain ⟨f0, u, cs, ce⟩ := st
  obtain rfl : f0 = 0 := h0
  rw [← ht8] at q2 q3
  have hpg : ∀ (st : eSt) (g : Nat → Int32), pg (fx (hW V T st) (iup I 26 g) L R ++ tl) a0 it 1 ln sz m0 f := fun st g => hp _ _ _ _ (fun j => by show eW _ st a0 j = _; rw [eW_na ha, vup_na ha]) (iup_na hit)
  have h4' : ∀ (st : eSt) (g : Nat → Int32), am_vR (am_pG 1540 (.ref 16) (fx (hW V T st) (iup I 26 g) L R ++ tl)) = some (.ref a0) := fun st g => by
    show am_vR (some (V 16 4)) = _
    rw [h4]
    rfl
  have g0 := c_54 (k := k) (w := 0) (hpg (0, u, cs, ce) g) hm0 hm1 hsz hk (by decide)
  have g1 := c_54 (k := k) (w := 1) (hpg (0, u, cs, ce) g) hm0 hm1 hsz hk (by decide)
  rw [show k * wdN 1 + 0 = k * 2 from rfl, s1] at g0
  rw [show k * wdN 1 + 1 = k * 2 + 1 from rfl, s2] at g1
  obtain ⟨w1, w2, w3, w4, w5, w6, p1, p2⟩ := hpg (0, u, cs, ce) g
  have e1 : 1 ≤ T → nI T - 1 = nI (T - 1) := fun h => nI_sub (b := 1) h
  have e2 : 2 ≤ T → nI T - 2 = nI (T - 2) := fun h => nI_sub (b := 2) h
  have fin : ∀ (st : eSt) (g : Nat → Int32), fg_123_282 N (fg_123_9 N K) (.ref 16) (nI k) (nI t) (nI (s k)) (v k) (fx (hW V T st) (iup I 26 g) L R ++ tl) = fg_123_9 N K (.ref 16) (nI (cN (s k) (a k) T k g)) (nI (t + 1)) (fx (hW V (T - tkN (s k) + ptN (s k)) st) (iup I 26 g) L R ++ tl) := fun st g => c_282 q1 q2 h8 (fun h => (q5 h).1)
  have ra : ∀ (st : eSt) (g : Nat → Int32) (i : Nat), i < 8 → am_pA 0 (.ref 26) (nI i) (fx (hW V T st) (iup I 26 g) L R ++ tl) = some (g i) := fun st g i hi => (ev_a (f := g) (n := 8) rfl (am_inb_n hi (by omega))).trans (by rw [nI_clamp (by omega)])
  have rs : ∀ (st : eSt) (g : Nat → Int32) (i : Nat) (w : Int32), i < 8 → am_pS 0 (.ref 26) (nI i) w (fx (hW V T st) (iup I 26 g) L R ++ tl) = some (fx (hW V T st) (iup I 26 (upd g i w)) L R ++ tl) := fun st g i w hi => ev_s (f := g) (n := 8) rfl (am_inb_n hi (by omega)) rfl (by rw [nI_clamp (by omega)]; rfl)
  rw [fg_123_9]
  refine ev_f (nI_ge (b := 60) htn (by omega)) (ev_b (h4' (0, u, cs, ce) g) (ev_b (ev_gI p1 rfl rfl) (ev_f (nI_ge hk (by omega)) (ev_b (a := (0 : Int32)) rfl (ev_f (fun e => e rfl) (ev_b (h4' (0, u, cs, ce) g) (ev_i (ev_ok p1) (ev_cI g0 (ev_b (h4' (0, u, cs, ce) g) (ev_i (ev_ok p1) (ev_cI g1 (ev_b (a := nI T) rfl (ev_cI (pe_56 _ _) ?_)))))))))))))
  rw [(tk56 (s k) (by omega)).1]
  refine ev_f (nI_nlt q2 (by omega)) (ev_b (a := nI T) rfl (ev_cI (pe_55 _ _) ?_))
  rw [gr55 (by omega) q2]
  refine ev_f (nI_nlt (b := T - tkN (s k) + ptN (s k)) (a := 8) q3 (by omega)) (ev_i rfl (ev_cI (c_118 (V := vup (vup (vup V 16 14 (.int (nI T))) 16 11 (.int cs)) 16 12 (.int ce)) (u := u) hl hu hlm) (ev_t (by decide) ?_)))
  by_cases c5 : s k < 5
  · have eS : cdS x y z len (I 25) (s k) (v k) T g (0, u + 1, cs, ce) = (upd g T (lfV x y z len (s k) (v k) (0, u + 1, cs, ce)), (0, u + 1, cs, ce)) := if_pos c5
    have t7 : T < 8 := by
      have a1 : tkN (s k) = 0 := if_pos c5
      have a2 : ptN (s k) = 1 := if_pos (by omega)
      omega
    rw [eS]
    refine ev_f (nI_nlt (b := s k) (a := 4) (by omega) (by omega)) (ev_b (a := Value.ref 26) rfl (ev_b (a := nI T) rfl (ev_i rfl (ev_cI (c_119 (V := vup V 16 14 (.int (nI T))) (st := (0, u + 1, cs, ce)) h6 h7 h8' h10 (by omega)) ?_))))
    exact ev_b (rs (0, u + 1, cs, ce) g T _ t7) (fin _ _)
  · refine ev_t (nI_lt (a := 4) (by omega) (by omega)) ?_
    by_cases c7 : s k < 7
    · have eS : cdS x y z len (I 25) (s k) (v k) T g (0, u + 1, cs, ce) = (upd g (T - 1) (oneV len (I 25) (s k + 2) (g (T - 1)) (0, u + 1, cs, ce)).1, (oneV len (I 25) (s k + 2) (g (T - 1)) (0, u + 1, cs, ce)).2) := (if_neg c5).trans (if_pos c7)
      have t1 : 1 ≤ T := by
        have a1 : tkN (s k) = 1 := (if_neg c5).trans (if_pos c7)
        omega
      rw [eS]
      refine ev_f (nI_nlt (b := s k) (a := 6) (by omega) (by omega)) (ev_b (a := Value.ref 26) rfl (ev_b (a := nI T) rfl (ev_b (a := Value.ref 26) rfl (ev_b (a := nI T) rfl ?_))))
      rw [e1 t1, show nI (s k) + 2 = nI (s k + 2) from nI_add (s k) 2]
      refine ev_b (ra (0, u + 1, cs, ce) g (T - 1) (by omega)) (ev_i rfl (ev_cI (c_120 (V := vup V 16 14 (.int (nI T))) (I := iup I 26 g) (st := (0, u + 1, cs, ce)) h10 hlen (by omega)) ?_))
      exact ev_b (rs _ g (T - 1) _ (by omega)) (fin _ _)
    · refine ev_t (nI_lt (a := 6) (by omega) (by omega)) ?_
      by_cases c14 : s k < 14
      · have eS : cdS x y z len (I 25) (s k) (v k) T g (0, u + 1, cs, ce) = (upd g (T - 2) (twoV (s k + 3) (g (T - 2)) (g (T - 1)) (0, u + 1, cs, ce)).1, (twoV (s k + 3) (g (T - 2)) (g (T - 1)) (0, u + 1, cs, ce)).2) := (if_neg c5).trans ((if_neg c7).trans (if_pos c14))
        have t2 : 2 ≤ T := by
          have a1 : tkN (s k) = 2 := (if_neg c5).trans ((if_neg c7).trans (if_pos c14))
          omega
        rw [eS]
        refine ev_f (nI_nlt (b := s k) (a := 13) (by omega) (by omega)) (ev_b (a := Value.ref 26) rfl (ev_b (a := nI T) rfl (ev_b (a := Value.ref 26) rfl (ev_b (a := nI T) rfl ?_))))
        rw [e2 t2, show nI (s k) + 3 = nI (s k + 3) from nI_add (s k) 3]
        refine ev_b (ra (0, u + 1, cs, ce) g (T - 2) (by omega)) (ev_b (a := Value.ref 26) rfl (ev_b (a := nI T) rfl ?_))
        rw [e1 (by omega)]
        refine ev_b (ra (0, u + 1, cs, ce) g (T - 1) (by omega)) (ev_i rfl (ev_cI (c_122 (V := vup V 16 14 (.int (nI T))) (I := iup I 26 g) (st := (0, u + 1, cs, ce)) (by omega) (by omega)) ?_))
        exact ev_b (rs _ g (T - 2) _ (by omega)) (fin _ _)
      · refine ev_t (nI_lt (a := 13) (by omega) (by omega)) ?_
        by_cases d14 : s k = 14
        · have eS : cdS x y z len (I 25) (s k) (v k) T g (0, u + 1, cs, ce) = (upd g T (g (T - 1)), (0, u + 1, cs, ce)) := (if_neg c5).trans ((if_neg c7).trans ((if_neg c14).trans (if_pos d14)))
          have t1 : 1 ≤ T ∧ T < 8 := by
            rw [d14] at q2 q3
            have a1 : tkN 14 = 1 := rfl
            have a2 : ptN 14 = 2 := rfl
            omega
          rw [eS]
          refine ev_f (fun e => e (by rw [d14]; rfl)) (ev_b (a := Value.ref 26) rfl (ev_b (a := nI T) rfl (ev_b (a := Value.ref 26) rfl (ev_b (a := nI T) rfl ?_))))
          rw [e1 t1.1]
          exact ev_b (ra (0, u + 1, cs, ce) g (T - 1) (by omega)) (ev_b (rs (0, u + 1, cs, ce) g T _ t1.2) (fin _ _))
        · refine ev_t (fun e => d14 ((nI_eq (b := 14) (by omega) (by decide)).mp e)) ?_
          by_cases d15 : s k = 15
          · have eS : cdS x y z len (I 25) (s k) (v k) T g (0, u + 1, cs, ce) = (upd (upd g (T - 1) (g (T - 2))) (T - 2) (g (T - 1)), (0, u + 1, cs, ce)) := (if_neg c5).trans ((if_neg c7).trans ((if_neg c14).trans ((if_neg d14).trans (if_pos d15))))
            have t2 : 2 ≤ T := by
              rw [d15] at q2
              exact q2
            rw [eS]
            refine ev_f (fun e => e (by rw [d15]; rfl)) (ev_b (a := Value.ref 26) rfl (ev_b (a := nI T) rfl ?_))
            rw [e1 (by omega)]
            refine ev_b (ra (0, u + 1, cs, ce) g (T - 1) (by omega)) (ev_b (a := Value.ref 26) rfl (ev_b (a := nI T) rfl (ev_b (a := Value.ref 26) rfl (ev_b (a := nI T) rfl ?_))))
            rw [e2 t2, e1 (by omega)]
            refine ev_b (ra (0, u + 1, cs, ce) g (T - 2) (by omega)) (ev_b (rs (0, u + 1, cs, ce) g (T - 1) _ (by omega)) (ev_b (a := Value.ref 26) rfl (ev_b (a := nI T) rfl ?_)))
            rw [e2 t2]
            exact ev_b (rs (0, u + 1, cs, ce) _ (T - 2) _ (by omega)) (fin _ _)
          · have eS : cdS x y z len (I 25) (s k) (v k) T g (0, u + 1, cs, ce) = (g, (0, u + 1, cs, ce)) := (if_neg c5).trans ((if_neg c7).trans ((if_neg c14).trans ((if_neg d14).trans (if_neg d15))))
            rw [eS]
            exact ev_t (fun e => d15 ((nI_eq (b := 15) (by omega) (by decide)).mp e)) (fin (0, u + 1, cs, ce) g)
