/-! ===== running code: the class's loop ===== -/
set_option maxRecDepth 100000 in
set_option maxHeartbeats 800000 in
theorem c_348 {V : Nat → Nat → Value} {I : Nat → Nat → Int32} {L : Nat → Nat → Int64} {R : Nat → Nat → Option Nat} {tl : am_H} {N T : Nat} {st : eSt} {g : Nat → Int32} (hT : T ≤ 8) : fg_123_348 N (.ref 16) (fx (hW V T st) (iup I 26 g) L R ++ tl) = some (.inl (some (.int (if T = 0 then 0 else g (T - 1))), (fx (hW V T st) (iup I 26 g) L R ++ tl))) := by
  unfold fg_123_348
  by_cases c : T = 0
  · rw [if_pos c, c]
    exact ev_b (a := nI 0) rfl (ev_t (by decide) rfl)
  · rw [if_neg c]
    refine ev_b (a := nI T) rfl (ev_f (nI_nle (by omega) (by omega)) (ev_b (a := Value.ref 26) rfl (ev_b (a := nI T) rfl ?_)))
    rw [show nI T - 1 = nI (T - 1) from nI_sub (b := 1) (by omega)]
    exact ev_b (a := g (T - 1)) ((ev_a (f := g) (n := 8) rfl (am_inb_n (by omega) (by omega))).trans (by rw [nI_clamp (by omega)])) rfl
set_option maxRecDepth 100000 in
set_option maxHeartbeats 800000 in
theorem c_ins3 {V : Nat → Nat → Value} {I : Nat → Nat → Int32} {L : Nat → Nat → Int64} {R : Nat → Nat → Option Nat} {tl : am_H} {N K a0 it ln sz m0 lm len k t T : Nat} {f : Nat → Int32} {s a : Nat → Nat} {v : Nat → Int32} {ht : Nat → Nat} {x y z : Int32} {st : eSt} {g : Nat → Int32} (hE : cdH V I tl a0 it ln sz m0 f s v x y z len lm) (hO : cdO sz s a v ht) (hk : k < sz) (ht8 : T = ht k) (h8 : T ≤ 8) (h0 : st.1 = 0) (hu : st.2.1 = lm) (htn : t < 60) : fg_123_9 N (K + 1) (.ref 16) (nI k) (nI t) (fx (hW V T st) (iup I 26 g) L R ++ tl) = some (.inl (some (.int 0), (fx (hW V T ((3, st.2) : eSt)) (iup I 26 g) L R ++ tl))) := by
  obtain ⟨hp, ha, hit, h4, hl, hlm, hm0, hm1, h6, h7, h8', h10, hlen, hs⟩ := hE
  obtain ⟨hsz, -, -, -, hc⟩ := hO
  obtain ⟨q1, q2, q3, q4, q5⟩ := hc k hk
  obtain ⟨s1, s2⟩ := hs k hk
  obtain ⟨f0, u, cs, ce⟩ := st
  obtain rfl : f0 = 0 := h0
  obtain rfl : u = lm := hu
  rw [← ht8] at q2 q3
  have hpg : ∀ (st : eSt) (g : Nat → Int32), pg (fx (hW V T st) (iup I 26 g) L R ++ tl) a0 it 1 ln sz m0 f := fun st g => hp _ _ _ _ (fun j => by show eW _ st a0 j = _; rw [eW_na ha, vup_na ha]) (iup_na hit)
  have h4' : ∀ (st : eSt) (g : Nat → Int32), am_vR (am_pG 1540 (.ref 16) (fx (hW V T st) (iup I 26 g) L R ++ tl)) = some (.ref a0) := fun st g => by
    show am_vR (some (V 16 4)) = _
    rw [h4]
    rfl
  have g0 := c_54 (k := k) (w := 0) (hpg (0, u, cs, ce) g) hm0 hm1 hsz hk (by decide)
  have g1 := c_54 (k := k) (w := 1) (hpg (0, u, cs, ce) g) hm0 hm1 hsz hk (by decide)
  rw [show k * wdN 1 + 0 = k * 2 from rfl, s1] at g0
  rw [show k * wdN 1 + 1 = k * 2 + 1 from rfl, s2] at g1
  obtain ⟨w1, w2, w3, w4, w5, w6, p1, p2⟩ := hpg (0, u, cs, ce) g
  rw [fg_123_9]
  refine ev_f (nI_ge (b := 60) htn (by omega)) (ev_b (h4' (0, u, cs, ce) g) (ev_b (ev_gI p1 rfl rfl) (ev_f (nI_ge hk (by omega)) (ev_b (a := (0 : Int32)) rfl (ev_f (fun e => e rfl) (ev_b (h4' (0, u, cs, ce) g) (ev_i (ev_ok p1) (ev_cI g0 (ev_b (h4' (0, u, cs, ce) g) (ev_i (ev_ok p1) (ev_cI g1 (ev_b (a := nI T) rfl (ev_cI (pe_56 _ _) ?_)))))))))))))
  rw [(tk56 (s k) (by omega)).1]
  refine ev_f (nI_nlt q2 (by omega)) (ev_b (a := nI T) rfl (ev_cI (pe_55 _ _) ?_))
  rw [gr55 (by omega) q2]
  exact ev_f (nI_nlt (b := T - tkN (s k) + ptN (s k)) (a := 8) q3 (by omega)) (ev_i rfl (ev_cI (c_118n (V := vup (vup (vup V 16 14 (.int (nI T))) 16 11 (.int cs)) 16 12 (.int ce)) (u := u) hl (Nat.le_refl _) hlm) (ev_f (fun e => e rfl) rfl)))
set_option maxRecDepth 100000 in
set_option maxHeartbeats 800000 in
theorem c_123l {V : Nat → Nat → Value} {I : Nat → Nat → Int32} {L : Nat → Nat → Int64} {R : Nat → Nat → Option Nat} {tl : am_H} {N a0 it ln sz m0 lm len : Nat} {f : Nat → Int32} {s a : Nat → Nat} {v : Nat → Int32} {ht : Nat → Nat} {x y z : Int32} (hE : cdH V I tl a0 it ln sz m0 f s v x y z len lm) (hO : cdO sz s a v ht) : ∀ (m k K t : Nat) (g : Nat → Int32) (st : eSt), sz ≤ k + m → k ≤ sz → t ≤ k → m < K → st.2.1 ≤ lm → ht k ≤ 8 → ∃ (w : Int32) (T' : Nat), fg_123_9 N K (.ref 16) (nI k) (nI t) (fx (hW V (ht k) st) (iup I 26 g) L R ++ tl) = some (.inl (some (.int w), (fx (hW V T' (crun x y z len (I 25) lm sz s a v ht m k g st).2) (iup I 26 (crun x y z len (I 25) lm sz s a v ht m k g st).1) L R ++ tl))) ∧ ((crun x y z len (I 25) lm sz s a v ht m k g st).2.1 = 0 → w = (crun x y z len (I 25) lm sz s a v ht m k g st).1 0) := by
  have hE' := hE
  have hO' := hO
  obtain ⟨hp, ha, hit, h4, hl, hlm, hm0, hm1, h6, h7, h8', h10, hlen, hs⟩ := hE
  obtain ⟨hsz, -, -, hte, hc⟩ := hO
  have hpg : ∀ (T : Nat) (st : eSt) (g : Nat → Int32), pg (fx (hW V T st) (iup I 26 g) L R ++ tl) a0 it 1 ln sz m0 f := fun T st g => hp _ _ _ _ (fun j => by show eW _ st a0 j = _; rw [eW_na ha, vup_na ha]) (iup_na hit)
  have h4' : ∀ (T : Nat) (st : eSt) (g : Nat → Int32), am_vR (am_pG 1540 (.ref 16) (fx (hW V T st) (iup I 26 g) L R ++ tl)) = some (.ref a0) := fun T st g => by
    show am_vR (some (V 16 4)) = _
    rw [h4]
    rfl
  have atEnd : ∀ (K t : Nat) (g : Nat → Int32) (st : eSt), t ≤ sz → fg_123_9 N (K + 1) (.ref 16) (nI sz) (nI t) (fx (hW V (ht sz) st) (iup I 26 g) L R ++ tl) = some (.inl (some (.int (g 0)), (fx (hW V (ht sz) st) (iup I 26 g) L R ++ tl))) := fun K t g st htz => by
    obtain ⟨w1, w2, w3, w4, w5, w6, p1, p2⟩ := hpg (ht sz) st g
    have e := c_348 (V := V) (I := I) (L := L) (R := R) (tl := tl) (N := N) (T := ht sz) (st := st) (g := g) (by omega)
    rw [if_neg (by omega), show ht sz - 1 = 0 by omega] at e
    rw [fg_123_9]
    by_cases c : 60 ≤ nI t
    · exact ev_t c e
    · exact ev_f c (ev_b (h4' (ht sz) st g) (ev_b (ev_gI p1 rfl rfl) (ev_t (nI_le (Nat.le_refl _) (by omega)) e)))
  intro m
  induction m with
  | zero =>
    intro k K t g st hk hk2 htk hK hu h8
    obtain ⟨K, rfl⟩ : ∃ k, K = k + 1 := ⟨K - 1, by omega⟩
    obtain rfl : k = sz := by omega
    exact ⟨g 0, ht k, atEnd K t g st htk, fun _ => rfl⟩
  | succ m ih =>
    intro k K t g st hk hk2 htk hK hu h8
    obtain ⟨K, rfl⟩ : ∃ k, K = k + 1 := ⟨K - 1, by omega⟩
    by_cases ck : sz ≤ k
    · have e : (crun x y z len (I 25) lm sz s a v ht (m + 1) k g st) = (g, st) := if_pos ck
      obtain rfl : k = sz := by omega
      rw [e]
      exact ⟨g 0, ht k, atEnd K t g st htk, fun _ => rfl⟩
    · by_cases c0 : st.1 ≠ 0
      · have e : (crun x y z len (I 25) lm sz s a v ht (m + 1) k g st) = (g, st) := (if_neg ck).trans (if_pos c0)
        rw [e]
        refine ⟨if ht k = 0 then 0 else g (ht k - 1), ht k, ?_, fun h => absurd h c0⟩
        obtain ⟨w1, w2, w3, w4, w5, w6, p1, p2⟩ := hpg (ht k) st g
        rw [fg_123_9]
        exact ev_f (nI_ge (b := 60) (by omega) (by omega)) (ev_b (h4' (ht k) st g) (ev_b (ev_gI p1 rfl rfl) (ev_f (nI_ge (by omega) (by omega)) (ev_b (a := st.1) rfl (ev_t c0 (c_348 h8))))))
      · have c0' : st.1 = 0 := Decidable.byContradiction c0
        by_cases cu : st.2.1 < lm
        · have e : (crun x y z len (I 25) lm sz s a v ht (m + 1) k g st) = (crun x y z len (I 25) lm sz s a v ht m (cN (s k) (a k) (ht k) k (cdS x y z len (I 25) (s k) (v k) (ht k) g (st.1, st.2.1 + 1, st.2.2)).1) (cdS x y z len (I 25) (s k) (v k) (ht k) g (st.1, st.2.1 + 1, st.2.2)).1 (cdS x y z len (I 25) (s k) (v k) (ht k) g (st.1, st.2.1 + 1, st.2.2)).2) := (if_neg ck).trans ((if_neg c0).trans (if_pos cu))
          have ci := c_ins (N := N) (K := K) (t := t) (st := st) (g := g) (L := L) (R := R) hE' hO' (show k < sz by omega) rfl h8 c0' cu (by omega)
          have cu' : (cdS x y z len (I 25) (s k) (v k) (ht k) g (st.1, st.2.1 + 1, st.2.2)).2.2.1 = st.2.1 + 1 := cdS_u
          obtain ⟨n1, n2, n3⟩ := cN_le (g := (cdS x y z len (I 25) (s k) (v k) (ht k) g (st.1, st.2.1 + 1, st.2.2)).1) hO' (show k < sz by omega)
          have q3 := (hc k (by omega)).2.2.1
          rw [← n3] at ci q3
          rw [e]
          generalize cdS x y z len (I 25) (s k) (v k) (ht k) g (st.1, st.2.1 + 1, st.2.2) = r at ci cu' n1 n2 n3 q3 ⊢
          generalize cN (s k) (a k) (ht k) k r.1 = k' at ci n1 n2 n3 q3 ⊢
          obtain ⟨w, T', h1, h2⟩ := ih k' K (t + 1) r.1 r.2 (by omega) n2 (by omega) (by omega) (by omega) q3
          exact ⟨w, T', ci.trans h1, h2⟩
        · have e : (crun x y z len (I 25) lm sz s a v ht (m + 1) k g st) = (g, ((3, st.2) : eSt)) := (if_neg ck).trans ((if_neg c0).trans (if_neg cu))
          rw [e]
          exact ⟨0, ht k, c_ins3 hE' hO' (by omega) rfl h8 c0' (by omega) (by omega), fun h => absurd (show (3 : Int32) = 0 from h) (by decide)⟩
set_option maxRecDepth 100000 in
set_option maxHeartbeats 800000 in
theorem c_123 {V : Nat → Nat → Value} {I : Nat → Nat → Int32} {L : Nat → Nat → Int64} {R : Nat → Nat → Option Nat} {tl : am_H} {N a0 it ln sz m0 lm len : Nat} {f : Nat → Int32} {s a : Nat → Nat} {v : Nat → Int32} {ht : Nat → Nat} {x y z : Int32} {cs ce : Int32} (hN : 100 < N) (hE : cdH V I tl a0 it ln sz m0 f s v x y z len lm) (hO : cdO sz s a v ht) (h11 : V 16 11 = .int cs) (h12 : V 16 12 = .int ce) : ∃ (w : Int32) (T' : Nat), fm_123 N (.ref 16) (fx (rsC V 0 0) I L R ++ tl) = some (.inl (some (.int w), (fx (hW V T' (crun x y z len (I 25) lm sz s a v ht sz 0 (I 26) (0, 0, cs, ce)).2) (iup I 26 (crun x y z len (I 25) lm sz s a v ht sz 0 (I 26) (0, 0, cs, ce)).1) L R ++ tl))) ∧ ((crun x y z len (I 25) lm sz s a v ht sz 0 (I 26) (0, 0, cs, ce)).2.1 = 0 → w = (crun x y z len (I 25) lm sz s a v ht sz 0 (I 26) (0, 0, cs, ce)).1 0) := by
  obtain ⟨w, T', h1, h2⟩ := c_123l (V := V) (I := I) (L := L) (R := R) (tl := tl) (N := N) hE hO sz 0 N 0 (I 26) (0, 0, cs, ce) (by omega) (by omega) (by omega) (by have := hO.1; omega) (Nat.zero_le _) (by rw [hO.2.2.1]; omega)
  refine ⟨w, T', ?_, h2⟩
  rw [hO.2.2.1, iup_self] at h1
  have e : hW V 0 (0, 0, cs, ce) = vup (rsC V 0 0) 16 14 (.int 0) := by
    funext p q
    unfold hW eW rsC
    by_cases c : p = 16
    · subst c
      simp only [vup_at, if_true]
      by_cases c14 : q = 14
      · subst c14; rfl
      · by_cases c12 : q = 12
        · subst c12; simp [h12]
        · by_cases c11 : q = 11
          · subst c11; simp [h11]
          · simp [c11, c12, c14]
    · rw [vup_na c, vup_na c, vup_na c, vup_na c, vup_na c, vup_na c, vup_na c, vup_na c]
  rw [e] at h1
  unfold fm_123 fg_123_0
  exact ev_b qp_16_14 h1
