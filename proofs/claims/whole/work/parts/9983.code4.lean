/-! ===== running code: the reference ===== -/
def cdG (V : Nat → Nat → Value) (I : Nat → Nat → Int32) (sz : Nat) (s : Nat → Nat) (v : Nat → Int32) (x y z : Int32) (len lm : Nat) : Prop := V 174 51 = .int x ∧ V 174 52 = .int y ∧ V 174 53 = .int z ∧ V 174 54 = .int (nI len) ∧ len ≤ 8 ∧ I 206 0 = nI lm ∧ lm ≤ 2000 ∧ V 174 14 = .int (nI sz) ∧ ∀ k, k < sz → I 186 k = nI (s k) ∧ I 187 k = v k
set_option maxRecDepth 100000 in
set_option maxHeartbeats 800000 in
theorem d_ra {V : Nat → Nat → Value} {I : Nat → Nat → Int32} {L : Nat → Nat → Int64} {R : Nat → Nat → Option Nat} {tl : am_H} {st : eSt} {g : Nat → Int32} {i : Nat} (hi : i < 400) : am_pA 0 (.ref 194) (nI i) (fx (rW V st) (iup I 194 g) L R ++ tl) = some (g i) := (ev_a (f := g) (n := 400) rfl (am_inb_n hi (by omega))).trans (by rw [nI_clamp (by omega)])
set_option maxRecDepth 100000 in
set_option maxHeartbeats 800000 in
theorem d_rs {V : Nat → Nat → Value} {I : Nat → Nat → Int32} {L : Nat → Nat → Int64} {R : Nat → Nat → Option Nat} {tl : am_H} {st : eSt} {g : Nat → Int32} {i : Nat} {w : Int32} (hi : i < 400) : am_pS 0 (.ref 194) (nI i) w (fx (rW V st) (iup I 194 g) L R ++ tl) = some (fx (rW V st) (iup I 194 (upd g i w)) L R ++ tl) := ev_s (f := g) (n := 400) rfl (am_inb_n hi (by omega)) rfl (by rw [nI_clamp (by omega)]; rfl)
set_option maxRecDepth 100000 in
set_option maxHeartbeats 800000 in
theorem r_206 {V : Nat → Nat → Value} {I : Nat → Nat → Int32} {L : Nat → Nat → Int64} {R : Nat → Nat → Option Nat} {tl : am_H} {N k s a T sz : Nat} {c : Int32} {st : eSt} {g : Nat → Int32} {rc : Value → Int32 → Int32 → am_H → Option am_O} (h14 : V 174 14 = .int (nI sz)) (hs : s ≤ 18) (hT : tkN s ≤ T) (hT8 : T ≤ 8) (hk : k < 400) (hv : I 187 k = c) (ha : 17 ≤ s → c = nI a) : fg_415_206 N rc (.ref 174) (nI T) (nI k) (nI s) (nI (k + 1)) (fx (rW V st) (iup I 194 g) L R ++ tl) = rc (.ref 174) (nI (T - tkN s + ptN s)) (if st.1 ≤ 0 then nI (cN s a T k g) else nI sz) (fx (rW V st) (iup I 194 g) L R ++ tl) := by
  have ne : ∀ b, b < 100 → s ≠ b → ¬ nI s = nI b := fun b hb h e => h ((nI_eq (by omega) (by omega)).mp e)
  obtain ⟨-, t2, t3, -⟩ := tk56 s (by omega)
  have k0 : ∀ w : Int32, fg_415_241 N rc (.ref 174) (nI T) (nI s) w (fx (rW V st) (iup I 194 g) L R ++ tl) = rc (.ref 174) (nI (T - tkN s + ptN s)) (if st.1 ≤ 0 then w else nI sz) (fx (rW V st) (iup I 194 g) L R ++ tl) := fun w => by
    unfold fg_415_241 fg_415_269
    refine ev_cI (pe_348 _ _) (ev_cI (pe_349 _ _) (ev_b (a := st.1) rfl ?_))
    rw [t2, t3, nI_sub hT, nI_add]
    by_cases c : st.1 ≤ 0
    · rw [if_pos c, if_pos c]
    · rw [if_neg c, if_neg c]
      exact ev_b (a := nI sz) (by show am_vI (some (V 174 14)) = _; rw [h14]; rfl) rfl
  have k1 : 17 ≤ s → fg_415_229 N rc (.ref 174) (nI T) (nI k) (nI s) (fx (rW V st) (iup I 194 g) L R ++ tl) = rc (.ref 174) (nI (T - tkN s + ptN s)) (if st.1 ≤ 0 then nI (k + 1 + a) else nI sz) (fx (rW V st) (iup I 194 g) L R ++ tl) := fun h => by
    unfold fg_415_229
    refine ev_b (a := Value.ref 187) rfl (ev_b (a := c) ((qa_187 (I := iup I 194 g) hk).trans (by rw [iup_na (by omega), hv])) ?_)
    rw [ha h, nI_1, nI_add]
    exact k0 _
  unfold fg_415_206
  by_cases c17 : s = 17
  · rw [show cN s a T k g = k + 1 + a from if_pos (.inl c17)]
    exact ev_t (by rw [c17]; rfl) (k1 (by omega))
  · refine ev_f (ne 17 (by omega) c17) ?_
    by_cases c18 : s = 18
    · have t2 : 1 ≤ T := by rw [c18] at hT; exact hT
      refine ev_f (fun e => e (by rw [c18]; rfl)) (ev_b (a := Value.ref 194) rfl ?_)
      rw [show nI T - 1 = nI (T - 1) from nI_sub (b := 1) t2]
      refine ev_b (d_ra (by omega)) ?_
      by_cases c0 : g (T - 1) = 0
      · rw [show cN s a T k g = k + 1 + a from if_pos (.inr ⟨c18, c0⟩)]
        exact ev_f (fun e => e c0) (k1 (by omega))
      · rw [show cN s a T k g = k + 1 from if_neg (fun e => e.elim c17 (fun e => c0 e.2))]
        exact ev_t c0 (k0 _)
    · rw [show cN s a T k g = k + 1 from if_neg (fun e => e.elim c17 (fun e => c18 e.1))]
      exact ev_t (ne 18 (by omega) c18) (k0 _)
set_option maxRecDepth 100000 in
set_option maxHeartbeats 800000 in
theorem r_ins {V : Nat → Nat → Value} {I : Nat → Nat → Int32} {L : Nat → Nat → Int64} {R : Nat → Nat → Option Nat} {tl : am_H} {N K sz lm len k T : Nat} {s a : Nat → Nat} {v : Nat → Int32} {ht : Nat → Nat} {x y z : Int32} {st : eSt} {g : Nat → Int32} (hE : cdG V I sz s v x y z len lm) (hO : cdO sz s a v ht) (hk : k < sz) (ht8 : T = ht k) (h8 : T ≤ 8) (h0 : st.1 = 0) (hu : st.2.1 < lm) : fg_415_4 N (K + 1) (.ref 174) (nI T) (nI k) (fx (rW V st) (iup I 194 g) L R ++ tl) = fg_415_4 N K (.ref 174) (nI (T - tkN (s k) + ptN (s k))) (if (cdS x y z len (I 212) (s k) (v k) T g (st.1, st.2.1 + 1, st.2.2)).2.1 ≤ 0 then nI (cN (s k) (a k) T k (cdS x y z len (I 212) (s k) (v k) T g (st.1, st.2.1 + 1, st.2.2)).1) else nI sz) (fx (rW V (cdS x y z len (I 212) (s k) (v k) T g (st.1, st.2.1 + 1, st.2.2)).2) (iup I 194 (cdS x y z len (I 212) (s k) (v k) T g (st.1, st.2.1 + 1, st.2.2)).1) L R ++ tl) := by
  obtain ⟨h51, h52, h53, h54, hlen, hl, hlm, h14, hs⟩ := hE
  obtain ⟨hsz, -, -, -, hc⟩ := hO
  obtain ⟨q1, q2, q3, q4, q5⟩ := hc k hk
  obtain ⟨s1, s2⟩ := hs k hk
  obtain ⟨f0, u, cs, ce⟩ := st
  obtain rfl : f0 = 0 := h0
  rw [← ht8] at q2 q3
  have e1 : 1 ≤ T → nI T - 1 = nI (T - 1) := fun h => nI_sub (b := 1) h
  have e2 : 2 ≤ T → nI T - 2 = nI (T - 2) := fun h => nI_sub (b := 2) h
  have ne : ∀ b, b < 100 → s k ≠ b → ¬ nI (s k) = nI b := fun b hb h e => h ((nI_eq (by omega) (by omega)).mp e)
  have fin : ∀ (st : eSt) (g : Nat → Int32), fg_415_206 N (fg_415_4 N K) (.ref 174) (nI T) (nI k) (nI (s k)) (nI (k + 1)) (fx (rW V st) (iup I 194 g) L R ++ tl) = fg_415_4 N K (.ref 174) (nI (T - tkN (s k) + ptN (s k))) (if st.1 ≤ 0 then nI (cN (s k) (a k) T k g) else nI sz) (fx (rW V st) (iup I 194 g) L R ++ tl) := fun st g => r_206 h14 q1 q2 h8 (by omega) s2 (fun h => (q5 h).1)
  have f164 : s k ≠ 15 → ∀ (st : eSt) (g : Nat → Int32), fg_415_164 N (fg_415_4 N K) (.ref 174) (nI T) (nI k) (nI (s k)) (nI (k + 1)) (fx (rW V st) (iup I 194 g) L R ++ tl) = fg_415_4 N K (.ref 174) (nI (T - tkN (s k) + ptN (s k))) (if st.1 ≤ 0 then nI (cN (s k) (a k) T k g) else nI sz) (fx (rW V st) (iup I 194 g) L R ++ tl) := fun h st g => by
    unfold fg_415_164
    exact ev_t (ne 15 (by omega) h) (fin st g)
  have f144 : s k ≠ 14 → s k ≠ 15 → ∀ (st : eSt) (g : Nat → Int32), fg_415_144 N (fg_415_4 N K) (.ref 174) (nI T) (nI k) (nI (s k)) (nI (k + 1)) (fx (rW V st) (iup I 194 g) L R ++ tl) = fg_415_4 N K (.ref 174) (nI (T - tkN (s k) + ptN (s k))) (if st.1 ≤ 0 then nI (cN (s k) (a k) T k g) else nI sz) (fx (rW V st) (iup I 194 g) L R ++ tl) := fun h h' st g => by
    unfold fg_415_144
    exact ev_t (ne 14 (by omega) h) (f164 h' st g)
  have f101 : s k ≤ 6 → ∀ (st : eSt) (g : Nat → Int32), fg_415_101 N (fg_415_4 N K) (.ref 174) (nI T) (nI k) (nI (s k)) (nI (k + 1)) (fx (rW V st) (iup I 194 g) L R ++ tl) = fg_415_4 N K (.ref 174) (nI (T - tkN (s k) + ptN (s k))) (if st.1 ≤ 0 then nI (cN (s k) (a k) T k g) else nI sz) (fx (rW V st) (iup I 194 g) L R ++ tl) := fun h st g => by
    unfold fg_415_101
    exact ev_t (nI_le (b := 6) h (by omega)) (f144 (by omega) (by omega) st g)
  have sk0 : am_pA 0 (.ref 186) (nI k) (fx (rW V ((0, u + 1, cs, ce) : eSt)) (iup I 194 g) L R ++ tl) = some (nI (s k)) := (qa_186 (I := iup I 194 g) (by omega)).trans (by rw [iup_na (by omega), s1])
  rw [fg_415_4]
  refine ev_b (a := nI sz) (by show am_vI (some (V 174 14)) = _; rw [h14]; rfl) (ev_f (nI_ge hk (by omega)) (ev_i rfl (ev_cI (r_407 (V := vup (vup V 174 58 (.int cs)) 174 59 (.int ce)) (I := iup I 194 g) (u := u) (lm := lm) hl hu hlm) (ev_f (by decide) (ev_b (a := Value.ref 186) rfl (ev_b sk0 ?_))))))
  rw [nI_1]
  by_cases c5 : s k < 5
  · have eS : cdS x y z len (I 212) (s k) (v k) T g (0, u + 1, cs, ce) = (upd g T (lfV x y z len (s k) (v k) (0, u + 1, cs, ce)), (0, u + 1, cs, ce)) := if_pos c5
    rw [eS]
    refine ev_f (nI_ge (b := 5) c5 (by omega)) (ev_b (a := Value.ref 194) rfl (ev_b (a := Value.ref 187) rfl (ev_b (a := v k) ((qa_187 (I := iup I 194 g) (by omega)).trans (by rw [iup_na (by omega), s2])) (ev_i rfl (ev_cI (r_408c (I := iup I 194 g) (st := (0, u + 1, cs, ce)) h51 h52 h53 h54 (by omega)) (ev_b (d_rs (st := (0, u + 1, cs, ce)) (g := g) (by omega)) ?_))))))
    unfold fg_415_53 fg_415_75
    exact ev_t (ne 5 (by omega) (by omega)) (ev_t (ne 6 (by omega) (by omega)) (f101 (by omega) (0, u + 1, cs, ce) _))
  · refine ev_t (nI_le (a := 5) (by omega) (by omega)) ?_
    unfold fg_415_53
    by_cases d5 : s k = 5
    · have eS : cdS x y z len (I 212) (s k) (v k) T g (0, u + 1, cs, ce) = (upd g (T - 1) (-(g (T - 1))), (0, u + 1, cs, ce)) := by rw [d5]; rfl
      have t1 : 1 ≤ T := by rw [d5] at q2; exact q2
      rw [eS]
      refine ev_f (fun e => e (by rw [d5]; rfl)) (ev_b (a := Value.ref 194) rfl (ev_b (a := Value.ref 194) rfl ?_))
      rw [e1 t1]
      refine ev_b (d_ra (st := (0, u + 1, cs, ce)) (g := g) (by omega)) (ev_b (d_rs (st := (0, u + 1, cs, ce)) (g := g) (by omega)) ?_)
      unfold fg_415_75
      exact ev_t (ne 6 (by omega) (by omega)) (f101 (by omega) (0, u + 1, cs, ce) _)
    · refine ev_t (ne 5 (by omega) d5) ?_
      unfold fg_415_75
      by_cases d6 : s k = 6
      · have eS : cdS x y z len (I 212) (s k) (v k) T g (0, u + 1, cs, ce) = (upd g (T - 1) (oneV len (I 212) 8 (g (T - 1)) (0, u + 1, cs, ce)).1, (oneV len (I 212) 8 (g (T - 1)) (0, u + 1, cs, ce)).2) := by rw [d6]; rfl
        have t1 : 1 ≤ T := by rw [d6] at q2; exact q2
        rw [eS]
        refine ev_f (fun e => e (by rw [d6]; rfl)) (ev_b (a := Value.ref 194) rfl (ev_b (a := Value.ref 194) rfl ?_))
        rw [e1 t1]
        exact ev_b (d_ra (st := (0, u + 1, cs, ce)) (g := g) (by omega)) (ev_i rfl (ev_cI (r_411c (I := iup I 194 g) (st := (0, u + 1, cs, ce)) h54 hlen) (ev_b (d_rs (g := g) (by omega)) (f101 (by omega) _ _))))
      · refine ev_t (ne 6 (by omega) d6) ?_
        unfold fg_415_101
        refine ev_f (nI_ge (a := 6) (by omega) (by omega)) ?_
        by_cases c14 : s k < 14
        · have eS : cdS x y z len (I 212) (s k) (v k) T g (0, u + 1, cs, ce) = (upd g (T - 2) (twoV (s k + 3) (g (T - 2)) (g (T - 1)) (0, u + 1, cs, ce)).1, (twoV (s k + 3) (g (T - 2)) (g (T - 1)) (0, u + 1, cs, ce)).2) := (if_neg c5).trans ((if_neg (by omega)).trans (if_pos c14))
          have t2 : 2 ≤ T := by
            have a1 : tkN (s k) = 2 := (if_neg c5).trans ((if_neg (by omega)).trans (if_pos c14))
            omega
          rw [eS]
          refine ev_f (nI_ge (b := 14) c14 (by omega)) (ev_b (a := Value.ref 194) rfl (ev_b (a := Value.ref 194) rfl ?_))
          rw [e2 t2, e1 (by omega), show nI (s k) + 3 = nI (s k + 3) from nI_add (s k) 3]
          exact ev_b (d_ra (st := (0, u + 1, cs, ce)) (g := g) (by omega)) (ev_b (a := Value.ref 194) rfl (ev_b (d_ra (st := (0, u + 1, cs, ce)) (g := g) (by omega)) (ev_i rfl (ev_cI (r_413c (I := iup I 194 g) (st := (0, u + 1, cs, ce)) (by omega) (by omega)) (ev_b (d_rs (g := g) (by omega)) (f144 (by omega) (by omega) _ _))))))
        · refine ev_t (nI_le (a := 14) (by omega) (by omega)) ?_
          unfold fg_415_144
          by_cases d14 : s k = 14
          · have eS : cdS x y z len (I 212) (s k) (v k) T g (0, u + 1, cs, ce) = (upd g T (g (T - 1)), (0, u + 1, cs, ce)) := (if_neg c5).trans ((if_neg (by omega)).trans ((if_neg c14).trans (if_pos d14)))
            have t1 : 1 ≤ T := by rw [d14] at q2; exact q2
            rw [eS]
            refine ev_f (fun e => e (by rw [d14]; rfl)) (ev_b (a := Value.ref 194) rfl (ev_b (a := Value.ref 194) rfl ?_))
            rw [e1 t1]
            exact ev_b (d_ra (st := (0, u + 1, cs, ce)) (g := g) (by omega)) (ev_b (d_rs (st := (0, u + 1, cs, ce)) (g := g) (by omega)) (f164 (by omega) (0, u + 1, cs, ce) _))
          · refine ev_t (ne 14 (by omega) d14) ?_
            unfold fg_415_164
            by_cases d15 : s k = 15
            · have eS : cdS x y z len (I 212) (s k) (v k) T g (0, u + 1, cs, ce) = (upd (upd g (T - 1) (g (T - 2))) (T - 2) (g (T - 1)), (0, u + 1, cs, ce)) := (if_neg c5).trans ((if_neg (by omega)).trans ((if_neg c14).trans ((if_neg d14).trans (if_pos d15))))
              have t2 : 2 ≤ T := by rw [d15] at q2; exact q2
              rw [eS]
              refine ev_f (fun e => e (by rw [d15]; rfl)) (ev_b (a := Value.ref 194) rfl ?_)
              rw [e1 (by omega), e2 t2]
              exact ev_b (d_ra (st := (0, u + 1, cs, ce)) (g := g) (by omega)) (ev_b (a := Value.ref 194) rfl (ev_b (a := Value.ref 194) rfl (ev_b (d_ra (st := (0, u + 1, cs, ce)) (g := g) (by omega)) (ev_b (d_rs (st := (0, u + 1, cs, ce)) (g := g) (by omega)) (ev_b (a := Value.ref 194) rfl (ev_b (d_rs (st := (0, u + 1, cs, ce)) (by omega)) (fin (0, u + 1, cs, ce) _)))))))
            · have eS : cdS x y z len (I 212) (s k) (v k) T g (0, u + 1, cs, ce) = (g, (0, u + 1, cs, ce)) := (if_neg c5).trans ((if_neg (by omega)).trans ((if_neg c14).trans ((if_neg d14).trans (if_neg d15))))
              rw [eS]
              exact ev_t (ne 15 (by omega) d15) (fin (0, u + 1, cs, ce) g)
