/-! ===== running a tree: what a turn of the reference does ===== -/
set_option maxRecDepth 100000 in
set_option maxHeartbeats 4000000 in
theorem p410z {V : Nat → Nat → Value} {I : Nat → Nat → Int32} {L : Nat → Nat → Int64} {R : Nat → Nat → Option Nat} {tl : am_H} {D k s : Nat} {st : eSt} {g : Int32} {fr ph on : Nat → Int32} {h2 : am_H} (hD : D < 130) (hp : ph D = 0) (h : fm_406 (.ref 174) (nI (k + 1)) (fx (gW V st (D + 1) g) (gJ I fr (upd ph D (nI 1)) on) L R ++ tl) = some (.inl (none, h2))) : fm_410 (.ref 174) (nI D) (nI k) (nI s) (fx (gW V st (D + 1) g) (gJ I fr ph on) L R ++ tl) = some (.inl (none, h2)) := by
  have gp : am_pA 0 (.ref 214) (nI D) (fx (gW V st (D + 1) g) (gJ I fr ph on) L R ++ tl) = some 0 := (ev_a (f := ph) (n := 130) rfl (am_inb_n hD (by omega))).trans (by rw [nI_clamp (by omega), hp])
  unfold fm_410 fg_410_0
  refine ev_b (a := Value.ref 214) rfl (ev_b gp (ev_b (a := Value.ref 214) rfl (ev_b gp ?_)))
  refine ev_b (a := (fx (gW V st (D + 1) g) (gJ I fr (upd ph D (nI 1)) on) L R ++ tl)) (ev_s (f := ph) (n := 130) rfl (am_inb_n hD (by omega)) rfl (by rw [nI_clamp (by omega)]; rfl)) (ev_f (fun e => e rfl) (ev_i rfl ?_))
  rw [nI_1]
  exact ev_cV h rfl
set_option maxRecDepth 100000 in
set_option maxHeartbeats 4000000 in
theorem p410a {V : Nat → Nat → Value} {I : Nat → Nat → Int32} {L : Nat → Nat → Int64} {R : Nat → Nat → Option Nat} {tl : am_H} {D k s : Nat} {st : eSt} {g : Int32} {fr ph on : Nat → Int32} {h2 : am_H} (hD : D < 130) (hp : ph D = nI 1) (h : fg_410_47 (.ref 174) (nI D) (nI k) (nI s) 1 (fx (gW V st (D + 1) g) (gJ I fr (upd ph D (nI 2)) (upd on D g)) L R ++ tl) = some (.inl (none, h2))) : fm_410 (.ref 174) (nI D) (nI k) (nI s) (fx (gW V st (D + 1) g) (gJ I fr ph on) L R ++ tl) = some (.inl (none, h2)) := by
  have gp : am_pA 0 (.ref 214) (nI D) (fx (gW V st (D + 1) g) (gJ I fr ph on) L R ++ tl) = some 1 := (ev_a (f := ph) (n := 130) rfl (am_inb_n hD (by omega))).trans (by rw [nI_clamp (by omega), hp]; rfl)
  unfold fm_410 fg_410_0
  refine ev_b (a := Value.ref 214) rfl (ev_b gp (ev_b (a := Value.ref 214) rfl (ev_b gp ?_)))
  refine ev_b (a := (fx (gW V st (D + 1) g) (gJ I fr (upd ph D (nI 2)) on) L R ++ tl)) (ev_s (f := ph) (n := 130) rfl (am_inb_n hD (by omega)) rfl (by rw [nI_clamp (by omega)]; rfl)) (ev_t (by decide) (ev_f (fun e => e rfl) (ev_b (a := Value.ref 215) rfl (ev_b (a := g) rfl ?_))))
  exact ev_b (a := (fx (gW V st (D + 1) g) (gJ I fr (upd ph D (nI 2)) (upd on D g)) L R ++ tl)) (ev_s (f := on) (n := 130) rfl (am_inb_n hD (by omega)) rfl (by rw [nI_clamp (by omega)]; rfl)) h
set_option maxRecDepth 100000 in
set_option maxHeartbeats 4000000 in
theorem p410b {V : Nat → Nat → Value} {I : Nat → Nat → Int32} {L : Nat → Nat → Int64} {R : Nat → Nat → Option Nat} {tl : am_H} {D k s : Nat} {st : eSt} {g : Int32} {fr ph on : Nat → Int32} {h2 : am_H} {q : Nat} (hD : D < 130) (hq : 2 ≤ q) (hq2 : q < 1000) (hp : ph D = nI q) (h : fg_410_47 (.ref 174) (nI D) (nI k) (nI s) (nI q) (fx (gW V st (D + 1) g) (gJ I fr (upd ph D (nI (q + 1))) on) L R ++ tl) = some (.inl (none, h2))) : fm_410 (.ref 174) (nI D) (nI k) (nI s) (fx (gW V st (D + 1) g) (gJ I fr ph on) L R ++ tl) = some (.inl (none, h2)) := by
  have gp : am_pA 0 (.ref 214) (nI D) (fx (gW V st (D + 1) g) (gJ I fr ph on) L R ++ tl) = some (nI q) := (ev_a (f := ph) (n := 130) rfl (am_inb_n hD (by omega))).trans (by rw [nI_clamp (by omega), hp])
  unfold fm_410 fg_410_0
  refine ev_b (a := Value.ref 214) rfl (ev_b gp (ev_b (a := Value.ref 214) rfl (ev_b gp ?_)))
  rw [nI_1]
  exact ev_b (a := (fx (gW V st (D + 1) g) (gJ I fr (upd ph D (nI (q + 1))) on) L R ++ tl)) (ev_s (f := ph) (n := 130) rfl (am_inb_n hD (by omega)) rfl (by rw [nI_clamp (by omega)]; rfl)) (ev_t (fun e => absurd ((nI_eq (b := 0) (by omega) (by decide)).mp e) (by omega)) (ev_t (fun e => absurd ((nI_eq (b := 1) (by omega) (by decide)).mp e) (by omega)) h))
theorem nE {s b : Nat} (hs : s ≤ 20) (hb : b < 100) (h : s ≠ b) : ¬ nI s = nI b := fun e => h ((nI_eq (by omega) (by omega)).mp e)
set_option maxRecDepth 100000 in
set_option maxHeartbeats 4000000 in
theorem p47_1 {V : Nat → Nat → Value} {I : Nat → Nat → Int32} {L : Nat → Nat → Int64} {R : Nat → Nat → Option Nat} {tl : am_H} {D k s : Nat} {st : eSt} {g : Int32} {fr ph on : Nat → Int32} {h2 : am_H} {len : Nat} {a x4 : Int32} (h54 : V 174 54 = .int (nI len)) (hlen : len ≤ 8) (hD : D < 130) (ho : on D = a) (hs : s = 7 ∨ s = 8 ∨ s = 9) : fg_410_47 (.ref 174) (nI D) (nI k) (nI s) x4 (fx (gW V st (D + 1) g) (gJ I fr ph on) L R ++ tl) = some (.inl (none, (fx (gW V (oneV len (I 212) s a st).2 D (oneV len (I 212) s a st).1) (gJ I fr ph on) L R ++ tl))) := by
  have go : am_pA 0 (.ref 215) (nI D) (fx (gW V st (D + 1) g) (gJ I fr ph on) L R ++ tl) = some a := (ev_a (f := on) (n := 130) rfl (am_inb_n hD (by omega))).trans (by rw [nI_clamp (by omega), ho])
  rcases hs with rfl | rfl | rfl
  · unfold fg_410_47 fg_410_65 fg_410_109
    exact ev_t rfl (ev_f (fun e => e rfl) (ev_b (a := Value.ref 215) rfl (ev_b go (ev_i rfl (ev_cV r_409 rfl)))))
  · unfold fg_410_47 fg_410_65 fg_410_109
    exact ev_f (by decide) (ev_t rfl (ev_t (by decide) (ev_f (fun e => e rfl) (ev_b (a := Value.ref 215) rfl (ev_b go (ev_i rfl (ev_cI (r_411 h54 hlen) (ev_i rfl (ev_cV r_409 rfl)))))))))
  · unfold fg_410_47 fg_410_65 fg_410_109
    exact ev_f (by decide) (ev_f (by decide) (ev_f (fun e => e rfl) (ev_t (by decide) (ev_t (by decide) (ev_b (a := Value.ref 215) rfl (ev_b go (ev_i rfl (ev_cV r_409 rfl))))))))
set_option maxRecDepth 100000 in
set_option maxHeartbeats 4000000 in
theorem p47_2e {V : Nat → Nat → Value} {I : Nat → Nat → Int32} {L : Nat → Nat → Int64} {R : Nat → Nat → Option Nat} {tl : am_H} {D k s : Nat} {st : eSt} {g : Int32} {fr ph on : Nat → Int32} {h2 : am_H} {e : Nat} (he : I 217 (k + 1) = nI (e - (k + 1))) (hk : k + 1 ≤ e) (hk4 : k < 300) (h10 : 10 ≤ s) (h16 : s ≤ 16) (h : fm_406 (.ref 174) (nI e) (fx (gW V st (D + 1) g) (gJ I fr ph on) L R ++ tl) = some (.inl (none, h2))) : fg_410_47 (.ref 174) (nI D) (nI k) (nI s) 1 (fx (gW V st (D + 1) g) (gJ I fr ph on) L R ++ tl) = some (.inl (none, h2)) := by
  unfold fg_410_47
  exact ev_f (nE (b := 7) (by omega) (by omega) (by omega)) (ev_f (nE (b := 8) (by omega) (by omega) (by omega)) (ev_t (nE (b := 9) (by omega) (by omega) (by omega)) (ev_f (nI_ge (b := 17) (by omega) (by omega)) (ev_f (fun e => e rfl) (ev_i rfl (ev_cI (r_412 he hk hk4) (ev_i rfl (ev_cV h rfl))))))))
set_option maxRecDepth 100000 in
set_option maxHeartbeats 4000000 in
theorem p47_2l {V : Nat → Nat → Value} {I : Nat → Nat → Int32} {L : Nat → Nat → Int64} {R : Nat → Nat → Option Nat} {tl : am_H} {D k s : Nat} {st : eSt} {g : Int32} {fr ph on : Nat → Int32} {h2 : am_H} {a : Int32} (hD : D < 130) (ho : on D = a) (h10 : 10 ≤ s) (h16 : s ≤ 16) : fg_410_47 (.ref 174) (nI D) (nI k) (nI s) (nI 2) (fx (gW V st (D + 1) g) (gJ I fr ph on) L R ++ tl) = some (.inl (none, (fx (gW V (twoV s a g st).2 D (twoV s a g st).1) (gJ I fr ph on) L R ++ tl))) := by
  have go : am_pA 0 (.ref 215) (nI D) (fx (gW V st (D + 1) g) (gJ I fr ph on) L R ++ tl) = some a := (ev_a (f := on) (n := 130) rfl (am_inb_n hD (by omega))).trans (by rw [nI_clamp (by omega), ho])
  unfold fg_410_47
  exact ev_f (nE (b := 7) (by omega) (by omega) (by omega)) (ev_f (nE (b := 8) (by omega) (by omega) (by omega)) (ev_t (nE (b := 9) (by omega) (by omega) (by omega)) (ev_f (nI_ge (b := 17) (by omega) (by omega)) (ev_t (by decide) (ev_b (a := Value.ref 215) rfl (ev_b go (ev_b (a := g) rfl (ev_i rfl (ev_cI (r_413 h10 h16) (ev_i rfl (ev_cV r_409 rfl)))))))))))
set_option maxRecDepth 100000 in
set_option maxHeartbeats 4000000 in
theorem p47_l {V : Nat → Nat → Value} {I : Nat → Nat → Int32} {L : Nat → Nat → Int64} {R : Nat → Nat → Option Nat} {tl : am_H} {D k s : Nat} {st : eSt} {g : Int32} {fr ph on : Nat → Int32} {h2 : am_H} (hs : s = 17 ∨ s = 18 ∨ s = 20) {e : Nat} (he : I 217 (k + 1) = nI (e - (k + 1))) (hk : k + 1 ≤ e) (hk4 : k < 300) : fg_410_47 (.ref 174) (nI D) (nI k) (nI s) (nI 2) (fx (gW V st (D + 1) g) (gJ I fr ph on) L R ++ tl) = some (.inl (none, (fx (gW V st D g) (gJ I fr ph on) L R ++ tl))) := by
  unfold fg_410_47
  refine ev_f (nE (b := 7) (by omega) (by omega) (by omega)) (ev_f (nE (b := 8) (by omega) (by omega) (by omega)) (ev_t (nE (b := 9) (by omega) (by omega) (by omega)) (ev_t (nI_le (a := 17) (by omega) (by omega)) ?_)))
  rcases hs with rfl | rfl | rfl
  · exact ev_f (by decide) (ev_t (by decide) (show fg_410_205 (.ref 174) (fx (gW V st (D + 1) g) (gJ I fr ph on) L R ++ tl) = _ from ev_b (a := g) rfl (ev_i rfl (ev_cV r_409 rfl))))
  · exact ev_f (by decide) (ev_t (by decide) (show fg_410_205 (.ref 174) (fx (gW V st (D + 1) g) (gJ I fr ph on) L R ++ tl) = _ from ev_b (a := g) rfl (ev_i rfl (ev_cV r_409 rfl))))
  · exact ev_t (by decide) (ev_t (by decide) (ev_i rfl (ev_cI (r_412 he hk hk4) (ev_t (by decide) (ev_b (a := g) rfl (ev_i rfl (ev_cV r_409 rfl)))))))
set_option maxRecDepth 100000 in
set_option maxHeartbeats 4000000 in
theorem p47_s {V : Nat → Nat → Value} {I : Nat → Nat → Int32} {L : Nat → Nat → Int64} {R : Nat → Nat → Option Nat} {tl : am_H} {D k s : Nat} {st : eSt} {g : Int32} {fr ph on : Nat → Int32} {h2 : am_H} {a w : Int32} {e : Nat} (hD : D < 130) (ho : on D = a) (hs : (s = 17 ∧ w = 1) ∨ (s = 18 ∧ w = 0)) (he : I 217 (k + 1) = nI (e - (k + 1))) (hk : k + 1 ≤ e) (hk4 : k < 300) : (a = w → fm_406 (.ref 174) (nI e) (fx (gW V st (D + 1) g) (gJ I fr ph on) L R ++ tl) = some (.inl (none, h2)) → fg_410_47 (.ref 174) (nI D) (nI k) (nI s) 1 (fx (gW V st (D + 1) g) (gJ I fr ph on) L R ++ tl) = some (.inl (none, h2))) ∧ (¬ a = w → fg_410_47 (.ref 174) (nI D) (nI k) (nI s) 1 (fx (gW V st (D + 1) g) (gJ I fr ph on) L R ++ tl) = some (.inl (none, (fx (gW V st D g) (gJ I fr ph on) L R ++ tl)))) := by
  have go : am_pA 0 (.ref 215) (nI D) (fx (gW V st (D + 1) g) (gJ I fr ph on) L R ++ tl) = some a := (ev_a (f := on) (n := 130) rfl (am_inb_n hD (by omega))).trans (by rw [nI_clamp (by omega), ho])
  have k1 : ∀ o, fg_410_190 (.ref 174) (nI k) a w (fx (gW V st (D + 1) g) (gJ I fr ph on) L R ++ tl) = o → fg_410_47 (.ref 174) (nI D) (nI k) (nI s) 1 (fx (gW V st (D + 1) g) (gJ I fr ph on) L R ++ tl) = o := fun o h => by
    unfold fg_410_47
    rcases hs with ⟨rfl, rfl⟩ | ⟨rfl, rfl⟩
    · exact ev_f (by decide) (ev_f (by decide) (ev_t (by decide) (ev_t (by decide) (ev_f (by decide) (ev_f (fun e => e rfl) (ev_b (a := Value.ref 215) rfl (ev_b go (ev_f (fun e => e rfl) h))))))))
    · exact ev_f (by decide) (ev_f (by decide) (ev_t (by decide) (ev_t (by decide) (ev_f (by decide) (ev_f (fun e => e rfl) (ev_b (a := Value.ref 215) rfl (ev_b go (ev_t (by decide) h))))))))
  refine ⟨fun c h => k1 _ ?_, fun c => k1 _ ?_⟩
  · unfold fg_410_190
    exact ev_f (fun e => e c) (ev_i rfl (ev_cI (r_412 he hk hk4) (ev_i rfl (ev_cV h rfl))))
  · unfold fg_410_190
    exact ev_t c (show fg_410_205 (.ref 174) (fx (gW V st (D + 1) g) (gJ I fr ph on) L R ++ tl) = _ from ev_b (a := g) rfl (ev_i rfl (ev_cV r_409 rfl)))
set_option maxRecDepth 100000 in
set_option maxHeartbeats 4000000 in
theorem p47_20 {V : Nat → Nat → Value} {I : Nat → Nat → Int32} {L : Nat → Nat → Int64} {R : Nat → Nat → Option Nat} {tl : am_H} {D k s : Nat} {st : eSt} {g : Int32} {fr ph on : Nat → Int32} {h2 : am_H} {a : Int32} {e e2 : Nat} (hD : D < 130) (ho : on D = a) (he : I 217 (k + 1) = nI (e - (k + 1))) (hk : k + 1 ≤ e) (hk4 : k < 300) (he2 : I 217 e = nI (e2 - e)) (hle : e ≤ e2) (h4 : e < 300) (h : fm_406 (.ref 174) (nI (if a = 1 then e else e2)) (fx (gW V st (D + 1) g) (gJ I fr ph on) L R ++ tl) = some (.inl (none, h2))) : fg_410_47 (.ref 174) (nI D) (nI k) (nI 20) 1 (fx (gW V st (D + 1) g) (gJ I fr ph on) L R ++ tl) = some (.inl (none, h2)) := by
  have go : am_pA 0 (.ref 215) (nI D) (fx (gW V st (D + 1) g) (gJ I fr ph on) L R ++ tl) = some a := (ev_a (f := on) (n := 130) rfl (am_inb_n hD (by omega))).trans (by rw [nI_clamp (by omega), ho])
  unfold fg_410_47
  refine ev_f (by decide) (ev_f (by decide) (ev_t (by decide) (ev_t (by decide) (ev_t (by decide) (ev_t (by decide) (ev_i rfl (ev_cI (r_412 he hk hk4) (ev_f (fun e => e rfl) (ev_b (a := Value.ref 215) rfl (ev_b go ?_))))))))))
  by_cases c : a = 1
  · rw [if_pos c] at h
    exact ev_f (fun e => e c) (show fg_410_272 (.ref 174) (nI e) (fx (gW V st (D + 1) g) (gJ I fr ph on) L R ++ tl) = _ from ev_i rfl (ev_cV h rfl))
  · rw [if_neg c] at h
    refine ev_t c (ev_b (a := Value.ref 217) rfl (ev_b (a := nI (e2 - e)) ((qa_217 (by omega)).trans (by rw [← he2]; rfl)) ?_))
    rw [nI_add, show e + (e2 - e) = e2 by omega]
    exact ev_i rfl (ev_cV h rfl)
set_option maxRecDepth 100000 in
set_option maxHeartbeats 4000000 in
theorem p47_19 {V : Nat → Nat → Value} {I : Nat → Nat → Int32} {L : Nat → Nat → Int64} {R : Nat → Nat → Option Nat} {tl : am_H} {D k s : Nat} {st : eSt} {g : Int32} {fr ph on : Nat → Int32} {h2 : am_H} {len e i : Nat} (h54 : V 174 54 = .int (nI len)) (hlen : len ≤ 8) (hD : D < 130) (he : I 217 (k + 1) = nI (e - (k + 1))) (hk : k + 1 ≤ e) (hk4 : k < 300) (hi : i ≤ len) : (i = len → fg_410_47 (.ref 174) (nI D) (nI k) (nI 19) (nI (i + 1)) (fx (gW V st (D + 1) g) (gJ I fr ph on) L R ++ tl) = some (.inl (none, (fx (gW V st D g) (gJ I fr ph (upd on D g)) L R ++ tl)))) ∧ (i < len → fm_406 (.ref 174) (nI e) (fx (gW V (st.1, st.2.1, g, I 212 i) (D + 1) g) (gJ I fr ph (upd on D g)) L R ++ tl) = some (.inl (none, h2)) → fg_410_47 (.ref 174) (nI D) (nI k) (nI 19) (nI (i + 1)) (fx (gW V st (D + 1) g) (gJ I fr ph on) L R ++ tl) = some (.inl (none, h2))) := by
  have go : am_pA 0 (.ref 215) (nI D) (fx (gW V st (D + 1) g) (gJ I fr ph (upd on D g)) L R ++ tl) = some g := (ev_a (f := upd on D g) (n := 130) rfl (am_inb_n hD (by omega))).trans (by rw [nI_clamp (by omega), upd_eq])
  have k1 : ∀ o, fm_414 (.ref 174) (nI D) (nI k) (nI (i + 1)) (fx (gW V st (D + 1) g) (gJ I fr ph on) L R ++ tl) = some (.inl (none, o)) → fg_410_47 (.ref 174) (nI D) (nI k) (nI 19) (nI (i + 1)) (fx (gW V st (D + 1) g) (gJ I fr ph on) L R ++ tl) = some (.inl (none, o)) := fun o h => by
    unfold fg_410_47
    exact ev_f (by decide) (ev_f (by decide) (ev_t (by decide) (ev_t (by decide) (ev_t (by decide) (ev_f (fun e => e rfl) (ev_i rfl (ev_cV h rfl)))))))
  have k2 : ∀ o, (if ¬ nI i = nI len then ((am_vR (am_pG 3134 (.ref 174) (fx (gW V st (D + 1) g) (gJ I fr ph (upd on D g)) L R ++ tl))).bind fun v10 => ((am_pA 0 v10 (nI D) (fx (gW V st (D + 1) g) (gJ I fr ph (upd on D g)) L R ++ tl)).bind fun v12 => ((am_pP 3130 (.ref 174) (.int v12) (fx (gW V st (D + 1) g) (gJ I fr ph (upd on D g)) L R ++ tl)).bind fun h14 => ((am_vR (am_pG 3127 (.ref 174) h14)).bind fun v16 => ((am_pA 0 v16 (nI i) h14).bind fun v18 => ((am_pP 3131 (.ref 174) (.int v18) h14).bind fun h20 => (if am_pOk 12 (.ref 174) h20 then am_cI true (fm_412 (.ref 174) (nI k) h20) (fun v23 h24 => (if am_pOk 12 (.ref 174) h24 then am_cV true (fm_406 (.ref 174) v23 h24) (fun h28 => some (.inl (none, h28))) else none)) else none))))))) else ((am_vR (am_pG 3134 (.ref 174) (fx (gW V st (D + 1) g) (gJ I fr ph (upd on D g)) L R ++ tl))).bind fun v30 => ((am_pA 0 v30 (nI D) (fx (gW V st (D + 1) g) (gJ I fr ph (upd on D g)) L R ++ tl)).bind fun v32 => (if am_pOk 12 (.ref 174) (fx (gW V st (D + 1) g) (gJ I fr ph (upd on D g)) L R ++ tl) then am_cV true (fm_409 (.ref 174) v32 (fx (gW V st (D + 1) g) (gJ I fr ph (upd on D g)) L R ++ tl)) (fun h36 => some (.inl (none, h36))) else none)))) = o → fm_414 (.ref 174) (nI D) (nI k) (nI (i + 1)) (fx (gW V st (D + 1) g) (gJ I fr ph on) L R ++ tl) = o := fun o h => by
    unfold fm_414 fg_414_0
    rw [nI_pred]
    exact ev_b (a := Value.ref 215) rfl (ev_b (a := g) rfl (ev_b (a := (fx (gW V st (D + 1) g) (gJ I fr ph (upd on D g)) L R ++ tl)) (ev_s (f := on) (n := 130) rfl (am_inb_n hD (by omega)) rfl (by rw [nI_clamp (by omega)]; rfl)) (ev_b (a := nI len) (by show am_vI (some (V 174 54)) = _; rw [h54]; rfl) h)))
  refine ⟨fun c => k1 _ (k2 _ ?_), fun c h => k1 _ (k2 _ ?_)⟩
  · exact ev_f (fun e => e (by rw [c])) (ev_b (a := Value.ref 215) rfl (ev_b go (ev_i rfl (ev_cV r_409 rfl))))
  · refine ev_t (fun e => absurd ((nI_eq (by omega) (by omega)).mp e) (by omega)) (ev_b (a := Value.ref 215) rfl (ev_b go ?_))
    refine ev_b (a := (fx (gW V ((st.1, st.2.1, g, st.2.2.2) : eSt) (D + 1) g) (gJ I fr ph (upd on D g)) L R ++ tl)) (ev_p rfl rfl rfl rfl) (ev_b (a := Value.ref 212) rfl (ev_b (qa_212 (by omega)) ?_))
    refine ev_b (a := (fx (gW V ((st.1, st.2.1, g, I 212 i) : eSt) (D + 1) g) (gJ I fr ph (upd on D g)) L R ++ tl)) (ev_p rfl rfl rfl rfl) (ev_i rfl (ev_cI (r_412 he hk hk4) (ev_i rfl (ev_cV h rfl))))
