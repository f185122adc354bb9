/-! ===== the reference's heaps of trees: wrapping, joining ===== -/
theorem atR_cons {I J : Nat → Nat → Int32} {B a : Nat} {b : Int32} {T : xT} (h : ∀ i x, T[i]? = some x → J 250 (B + (i + 1)) = nI x.1 ∧ J 251 (B + (i + 1)) = x.2) (h0 : J 250 B = nI a ∧ J 251 B = b) : atR J B ((a, b) :: T) := fun i x e => by
  cases i with
  | zero => rw [List.getElem?_cons_zero] at e; rw [← Option.some.inj e]; exact h0
  | succ i => rw [List.getElem?_cons_succ] at e; exact h i x e
set_option maxRecDepth 100000 in
set_option maxHeartbeats 4000000 in
theorem sh_561 {L : Nat → Nat → Int64} {R : Nat → Nat → Option Nat} {tl : am_H} {V : Nat → Nat → Value} {N q : Nat} {T : xT}  (hq : q ≤ 8) (hT : T.length < 128) : ∀ (k K : Nat) (I : Nat → Nat → Int32), k ≤ T.length → k < K → I 252 q = nI T.length → (∀ i x, T[i]? = some x → i < k → I 250 (128 * q + i) = nI x.1 ∧ I 251 (128 * q + i) = x.2) → (∀ i x, T[i]? = some x → k ≤ i → I 250 (128 * q + (i + 1)) = nI x.1 ∧ I 251 (128 * q + (i + 1)) = x.2) → ∃ J K', fg_561_27 N K (.ref 174) (nI q) (nI k) (fx V I L R ++ tl) = fg_561_27 N (K' + 1) (.ref 174) (nI q) (nI 0) (fx V J L R ++ tl) ∧ (∀ i x, T[i]? = some x → J 250 (128 * q + (i + 1)) = nI x.1 ∧ J 251 (128 * q + (i + 1)) = x.2) ∧ J 252 = I 252 ∧ hfr q I J := by
  intro k
  induction k with
  | zero =>
    intro K I hk hK h0 h1 h2
    obtain ⟨K, rfl⟩ : ∃ k, K = k + 1 := ⟨K - 1, by omega⟩
    exact ⟨I, K, rfl, fun i x e => h2 i x e (by omega), rfl, hfr_r⟩
  | succ k ih =>
    intro K I hk hK h0 h1 h2
    obtain ⟨K, rfl⟩ : ∃ k, K = k + 1 := ⟨K - 1, by omega⟩
    have hk2 : k < T.length := by omega
    obtain ⟨c1, c2⟩ := h1 k _ (List.getElem?_eq_getElem hk2) (by omega)
    obtain ⟨J0, hJ0⟩ : ∃ J0, J0 = iup (iup I 250 (upd (I 250) (128 * q + (k + 1)) (nI (T[k]).1))) 251 (upd (I 251) (128 * q + (k + 1)) (T[k]).2) := ⟨_, rfl⟩
    have j0 : J0 250 = upd (I 250) (128 * q + (k + 1)) (nI (T[k]).1) := by rw [hJ0]; rfl
    have j1 : J0 251 = upd (I 251) (128 * q + (k + 1)) (T[k]).2 := by rw [hJ0]; rfl
    have j2 : J0 252 = I 252 := by rw [hJ0]; rfl
    obtain ⟨J, K', e, p, p2, f⟩ := ih K J0 (by omega) (by omega) (by rw [j2]; exact h0) (fun i x e hi => by rw [j0, j1, upd_ne (by omega), upd_ne (by omega)]; exact h1 i x e (by omega)) (fun i x e hi => by
      rw [j0, j1]
      by_cases c : i = k
      · subst c
        rw [List.getElem?_eq_getElem hk2] at e
        rw [upd_eq, upd_eq, Option.some.inj e]
        exact ⟨rfl, rfl⟩
      · rw [upd_ne (by omega), upd_ne (by omega)]
        exact h2 i x e (by omega))
    refine ⟨J, K', ?_, p, p2.trans j2, hfr_t ⟨fun y a b c => by rw [hJ0, iup_na b, iup_na a], fun i n => by rw [j2], fun i n => ⟨by rw [j0]; exact upd_ne (by omega), by rw [j1]; exact upd_ne (by omega)⟩⟩ f⟩
    apply hd_561_27
    have pm : nI (128 * q + (k + 1)) - 1 = nI (128 * q + k) := by
      rw [show nI (128 * q + (k + 1)) - 1 = nI (128 * q + (k + 1) - 1) from nI_sub (b := 1) (by omega)]
      rfl
    rw [x128, pm, nI_m1]
    refine ev_f (nI_ge (a := 0) (by omega) (by omega)) (ev_b (rdR rfl) (ev_b (rdR rfl) (ev_b ((qa_250 (by omega)).trans (congrArg some c1)) (ev_b (qs_250 (by omega)) (ev_b (rdR rfl) (ev_b (rdR rfl) (ev_b ((qa_251 (by omega)).trans (congrArg some c2)) (ev_b (qs_251 (by omega)) ?_))))))))
    rw [← e, hJ0]
    rfl
set_option maxRecDepth 100000 in
set_option maxHeartbeats 4000000 in
theorem sh_560 {L : Nat → Nat → Int64} {R : Nat → Nat → Option Nat} {tl : am_H} {V : Nat → Nat → Value} {N q : Nat} {T : xT} {x1 x2 : Int32} (hq : q ≤ 8) (hT : T.length < 128) : ∀ (k K : Nat) (I : Nat → Nat → Int32), k ≤ T.length → k < K → I 252 q = nI T.length → (∀ i x, T[i]? = some x → i < k → I 250 (128 * q + i) = nI x.1 ∧ I 251 (128 * q + i) = x.2) → (∀ i x, T[i]? = some x → k ≤ i → I 250 (128 * q + (i + 1)) = nI x.1 ∧ I 251 (128 * q + (i + 1)) = x.2) → ∃ J K', fg_560_82 N K (.ref 174) x1 x2 (nI q) (nI k) (fx V I L R ++ tl) = fg_560_82 N (K' + 1) (.ref 174) x1 x2 (nI q) (nI 0) (fx V J L R ++ tl) ∧ (∀ i x, T[i]? = some x → J 250 (128 * q + (i + 1)) = nI x.1 ∧ J 251 (128 * q + (i + 1)) = x.2) ∧ J 252 = I 252 ∧ hfr q I J := by
  intro k
  induction k with
  | zero =>
    intro K I hk hK h0 h1 h2
    obtain ⟨K, rfl⟩ : ∃ k, K = k + 1 := ⟨K - 1, by omega⟩
    exact ⟨I, K, rfl, fun i x e => h2 i x e (by omega), rfl, hfr_r⟩
  | succ k ih =>
    intro K I hk hK h0 h1 h2
    obtain ⟨K, rfl⟩ : ∃ k, K = k + 1 := ⟨K - 1, by omega⟩
    have hk2 : k < T.length := by omega
    obtain ⟨c1, c2⟩ := h1 k _ (List.getElem?_eq_getElem hk2) (by omega)
    obtain ⟨J0, hJ0⟩ : ∃ J0, J0 = iup (iup I 250 (upd (I 250) (128 * q + (k + 1)) (nI (T[k]).1))) 251 (upd (I 251) (128 * q + (k + 1)) (T[k]).2) := ⟨_, rfl⟩
    have j0 : J0 250 = upd (I 250) (128 * q + (k + 1)) (nI (T[k]).1) := by rw [hJ0]; rfl
    have j1 : J0 251 = upd (I 251) (128 * q + (k + 1)) (T[k]).2 := by rw [hJ0]; rfl
    have j2 : J0 252 = I 252 := by rw [hJ0]; rfl
    obtain ⟨J, K', e, p, p2, f⟩ := ih K J0 (by omega) (by omega) (by rw [j2]; exact h0) (fun i x e hi => by rw [j0, j1, upd_ne (by omega), upd_ne (by omega)]; exact h1 i x e (by omega)) (fun i x e hi => by
      rw [j0, j1]
      by_cases c : i = k
      · subst c
        rw [List.getElem?_eq_getElem hk2] at e
        rw [upd_eq, upd_eq, Option.some.inj e]
        exact ⟨rfl, rfl⟩
      · rw [upd_ne (by omega), upd_ne (by omega)]
        exact h2 i x e (by omega))
    refine ⟨J, K', ?_, p, p2.trans j2, hfr_t ⟨fun y a b c => by rw [hJ0, iup_na b, iup_na a], fun i n => by rw [j2], fun i n => ⟨by rw [j0]; exact upd_ne (by omega), by rw [j1]; exact upd_ne (by omega)⟩⟩ f⟩
    apply hd_560_82
    have pm : nI (128 * q + (k + 1)) - 1 = nI (128 * q + k) := by
      rw [show nI (128 * q + (k + 1)) - 1 = nI (128 * q + (k + 1) - 1) from nI_sub (b := 1) (by omega)]
      rfl
    rw [x128, pm, nI_m1]
    refine ev_f (nI_ge (a := 0) (by omega) (by omega)) (ev_b (rdR rfl) (ev_b (rdR rfl) (ev_b ((qa_250 (by omega)).trans (congrArg some c1)) (ev_b (qs_250 (by omega)) (ev_b (rdR rfl) (ev_b (rdR rfl) (ev_b ((qa_251 (by omega)).trans (congrArg some c2)) (ev_b (qs_251 (by omega)) ?_))))))))
    rw [← e, hJ0]
    rfl
set_option maxRecDepth 100000 in
set_option maxHeartbeats 4000000 in
theorem zh_561 {V : Nat → Nat → Value} {I : Nat → Nat → Int32} {L : Nat → Nat → Int64} {R : Nat → Nat → Option Nat} {tl : am_H} {N q K a : Nat} {T : xT}  (hq : q ≤ 8) (hT : T.length < 128) (h0 : I 252 q = nI T.length) (hx : (20 : Int32) = nI a) (h : ∀ i x, T[i]? = some x → I 250 (128 * q + (i + 1)) = nI x.1 ∧ I 251 (128 * q + (i + 1)) = x.2) : ∃ J, hpL J q ((a, 0) :: T) ∧ hfr q I J ∧ ∀ o_, ((if am_pOk 12 (.ref 174) (fx V J L R ++ tl) then am_cV true (fm_559 (.ref 174) (nI q) 0 1 (fx V J L R ++ tl)) (fun h18 => (if am_pOk 12 (.ref 174) h18 then am_cV true (fm_559 (.ref 174) (nI q) 0 0 h18) (fun h22 => some (.inl (none, h22))) else none)) else none) = o_ → fg_561_27 N (K + 1) (.ref 174) (nI q) (nI 0) (fx V I L R ++ tl) = o_) := by
  obtain ⟨J0, hJ0⟩ : ∃ J0, J0 = iup (iup (iup I 250 (upd (I 250) (128 * q) (nI a))) 251 (upd (I 251) (128 * q) 0)) 252 (upd (I 252) q (nI (T.length + 1))) := ⟨_, rfl⟩
  have j0 : J0 250 = upd (I 250) (128 * q) (nI a) := by rw [hJ0]; rfl
  have j1 : J0 251 = upd (I 251) (128 * q) 0 := by rw [hJ0]; rfl
  have j2 : J0 252 = upd (I 252) q (nI (T.length + 1)) := by rw [hJ0]; rfl
  refine ⟨J0, ⟨by rw [j2]; exact upd_eq, by show T.length + 1 ≤ 128; omega, atR_cons (I := I) (fun i x e => by rw [j0, j1, upd_ne (by omega), upd_ne (by omega)]; exact h i x e) ⟨by rw [j0]; exact upd_eq, by rw [j1]; exact upd_eq⟩⟩, ⟨fun y a b c => by rw [hJ0, iup_na c, iup_na b, iup_na a], fun i n => by rw [j2]; exact upd_ne n, fun i n => ⟨by rw [j0]; exact upd_ne (by omega), by rw [j1]; exact upd_ne (by omega)⟩⟩, fun o_ k_ => ?_⟩
  apply hd_561_27
  rw [x128a, hx]
  refine ev_t (by decide) (ev_b (rdR rfl) (ev_b (qs_250 (by omega)) (ev_b (rdR rfl) (ev_b (qs_251 (by omega)) (ev_b (rdR rfl) (ev_b ((qa_252 (by omega)).trans (congrArg some h0)) ?_))))))
  rw [nI_1]
  refine ev_b (qs_252 (by omega)) ?_
  rw [hJ0] at k_
  exact k_
set_option maxRecDepth 100000 in
set_option maxHeartbeats 4000000 in
theorem zh_560 {V : Nat → Nat → Value} {I : Nat → Nat → Int32} {L : Nat → Nat → Int64} {R : Nat → Nat → Option Nat} {tl : am_H} {N q K a : Nat} {T : xT} {x1 x2 : Int32} (hq : q ≤ 8) (hT : T.length < 128) (h0 : I 252 q = nI T.length) (hx : x1 = nI a) (h : ∀ i x, T[i]? = some x → I 250 (128 * q + (i + 1)) = nI x.1 ∧ I 251 (128 * q + (i + 1)) = x.2) : ∃ J, hpL J q ((a, 0) :: T) ∧ hfr q I J ∧ ∀ o_, (fg_560_184 N N (.ref 174) x2 (nI q) 0 (fx V J L R ++ tl) = o_ → fg_560_82 N (K + 1) (.ref 174) x1 x2 (nI q) (nI 0) (fx V I L R ++ tl) = o_) := by
  obtain ⟨J0, hJ0⟩ : ∃ J0, J0 = iup (iup (iup I 250 (upd (I 250) (128 * q) (nI a))) 251 (upd (I 251) (128 * q) 0)) 252 (upd (I 252) q (nI (T.length + 1))) := ⟨_, rfl⟩
  have j0 : J0 250 = upd (I 250) (128 * q) (nI a) := by rw [hJ0]; rfl
  have j1 : J0 251 = upd (I 251) (128 * q) 0 := by rw [hJ0]; rfl
  have j2 : J0 252 = upd (I 252) q (nI (T.length + 1)) := by rw [hJ0]; rfl
  refine ⟨J0, ⟨by rw [j2]; exact upd_eq, by show T.length + 1 ≤ 128; omega, atR_cons (I := I) (fun i x e => by rw [j0, j1, upd_ne (by omega), upd_ne (by omega)]; exact h i x e) ⟨by rw [j0]; exact upd_eq, by rw [j1]; exact upd_eq⟩⟩, ⟨fun y a b c => by rw [hJ0, iup_na c, iup_na b, iup_na a], fun i n => by rw [j2]; exact upd_ne n, fun i n => ⟨by rw [j0]; exact upd_ne (by omega), by rw [j1]; exact upd_ne (by omega)⟩⟩, fun o_ k_ => ?_⟩
  apply hd_560_82
  rw [x128a, hx]
  refine ev_t (by decide) (ev_b (rdR rfl) (ev_b (qs_250 (by omega)) (ev_b (rdR rfl) (ev_b (qs_251 (by omega)) (ev_b (rdR rfl) (ev_b ((qa_252 (by omega)).trans (congrArg some h0)) ?_))))))
  rw [nI_1]
  refine ev_b (qs_252 (by omega)) ?_
  rw [hJ0] at k_
  exact k_
/-- a truth becomes a number -/
def wrT (T : xT) : xT := if truN (xS T 0) = 0 then T else (20, 0) :: (T ++ [(0, 1), (0, 0)])
/-- as the reference has it: too long a truth is left alone -/
def wrTl (T : xT) : xT := if T.length ≤ 124 then wrT T else T
set_option maxRecDepth 100000 in
set_option maxHeartbeats 4000000 in
theorem h561 {V : Nat → Nat → Value} {I : Nat → Nat → Int32} {L : Nat → Nat → Int64} {R : Nat → Nat → Option Nat} {tl : am_H} {N q : Nat} {T : xT} (hN : 400 < N) (hq : q ≤ 8) (h : hpL I q T) (h0 : 0 < T.length) (hk20 : xS T 0 ≤ 20) (x : Int32) (hx : x = nI q) : ∃ J, fm_561 N (.ref 174) x (fx V I L R ++ tl) = some (.inl (none, fx V J L R ++ tl)) ∧ hpL J q (wrTl T) ∧ hfr q I J := by
  have e1 := h562 (V := V) (L := L) (R := R) (tl := tl) hq h h0 hk20 x hx
  subst hx
  have r : am_pA 0 (.ref 252) (nI q) (fx V I L R ++ tl) = some (nI T.length) := (qa_252 (by omega)).trans (congrArg some h.1)
  have l := h.2.1
  unfold wrTl wrT
  by_cases c : truN (xS T 0) = 0
  · rw [if_pos c]
    refine ⟨I, ?_, by split <;> exact h, hfr_r⟩
    apply hm_561
    apply hd_561_0
    exact ev_i rfl (ev_cI e1 (ev_t (by rw [c]; rfl) rfl))
  · rw [if_neg c]
    have c1 : truN (xS T 0) = 1 := by
      have : truN (xS T 0) ≤ 1 := by unfold truN; split <;> omega
      omega
    by_cases d : T.length ≤ 124
    · rw [if_pos d]
      obtain ⟨J1, K', g1, p1, z1, f1⟩ := sh_561 (V := V) (L := L) (R := R) (tl := tl) (N := N) hq (by omega) T.length N I (Nat.le_refl _) (by omega) h.1 (fun i x e _ => h.2.2 i x e) (fun i x e hi => absurd (List.getElem?_eq_some_iff.mp e).1 (by omega))
      have h01 : J1 252 q = nI T.length := by rw [z1]; exact h.1
      obtain ⟨J2, p2, f2, g2⟩ := zh_561 (V := V) (L := L) (R := R) (tl := tl) (N := N) (K := K') (a := 20) hq (by omega) h01 rfl p1
      obtain ⟨J3, e3, p3, f3⟩ := h559 (V := V) (L := L) (R := R) (tl := tl) (a := 0) (b := 1) hq p2 (by show T.length + 1 < 128; omega) 0 rfl
      obtain ⟨J4, e4, p4, f4⟩ := h559 (V := V) (L := L) (R := R) (tl := tl) (a := 0) (b := 0) hq p3 (by rw [List.length_append]; show T.length + 1 + 1 < 128; omega) 0 rfl
      refine ⟨J4, ?_, ?_, hfr_t f1 (hfr_t f2 (hfr_t f3 f4))⟩
      · apply hm_561
        apply hd_561_0
        refine ev_i rfl (ev_cI e1 (ev_f (by rw [c1]; decide) (ev_b (rdR rfl) (ev_b r (ev_t (nI_le (b := 124) d (by decide)) (ev_b (rdR rfl) (ev_b r ?_)))))))
        exact g1.trans (g2 _ (ev_i rfl (ev_cV e3 (ev_i rfl (ev_cV e4 rfl)))))
      · rw [List.append_assoc, List.cons_append] at p4
        exact p4
    · rw [if_neg d]
      refine ⟨I, ?_, h, hfr_r⟩
      apply hm_561
      apply hd_561_0
      exact ev_i rfl (ev_cI e1 (ev_f (by rw [c1]; decide) (ev_b (rdR rfl) (ev_b r (ev_f (nI_ge (a := 124) (by omega) (by omega)) rfl)))))
