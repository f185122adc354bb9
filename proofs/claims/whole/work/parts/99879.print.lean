/-! ===== printed(b), letter(b, i) ===== -/
theorem v24 {V : Nat → Nat → Value} {x y : Value} : vup (vup V 2 8 x) 2 4 y = vup (vup V 2 4 y) 2 8 x := by
  funext e j
  by_cases c1 : e = 2 ∧ j = 4
  · obtain ⟨c2, c3⟩ := c1
    subst c2
    subst c3
    rw [vup_eq, vup_nj (by decide), vup_eq]
  · by_cases c2 : e = 2 ∧ j = 8
    · obtain ⟨c3, c4⟩ := c2
      subst c3
      subst c4
      rw [vup_nj (by decide), vup_eq, vup_eq]
    · rw [vup_o c1, vup_o c2, vup_o c2, vup_o c1]
theorem txI_b {kd ln sz : Nat} {s v : Nat → Int32} (h : sound kd ln sz s v) (h0 : kd ≠ 0) : ∀ i, i ≤ sz → (txI kd ln s v i).length ≤ 240 := fun i hi => by
  have h3 := h.1
  have h60 := h.2.1
  obtain ⟨q1, q2⟩ := txI_le (kd := kd) (ln := ln) (s := s) (v := v) h0 h3 i (fun k hk => itK_s h (by omega))
  rcases (by omega : kd = 1 ∨ kd = 2 ∨ kd = 3) with e | e | e
  · have := q2 e
    omega
  · rw [if_pos e] at q1
    have := (h.2.2.2.2.2.1 e).1
    omega
  · rw [if_neg (show ¬ kd = 2 by omega)] at q1
    have := (h.2.2.2.2.2.2 e).2.2.1
    omega
theorem hd_0 {kd ln : Nat} (h : kd ≠ 3) : hdL kd ln = [] := if_neg h
set_option maxRecDepth 100000 in
set_option maxHeartbeats 1600000 in
theorem pr_c {V : Nat → Nat → Value} {I : Nat → Nat → Int32} {L : Nat → Nat → Int64} {R : Nat → Nat → Option Nat} {tl : am_H} {N A it kd ln sz : Nat} {F s v : Nat → Int32} (hN : 200 < N) (hs : sound kd ln sz s v) (h0 : kd ≠ 0) (hp : prA V I tl A it kd ln sz (sz * wdN kd) F) (hi : itm kd s v sz F) (hA : A ≠ 2) (hit : it ≠ 13) : fm_64 N (.ref 2) (.ref A) (fx V I L R ++ tl) = some (.inl (some (.int (nI (txI kd ln s v sz).length)), pC (vup V 2 4 (.ref A)) I L R tl (txI kd ln s v sz).length (wrL (I 13) 0 (txI kd ln s v sz)))) := by
  have h3 := hs.1
  have h60 := hs.2.1
  have hp' : prA (vup V 2 4 (.ref A)) I tl A it kd ln sz (sz * wdN kd) F := prA_c (fun j => vup_na hA) rfl hp
  have st : fx (vup (vup V 2 8 (.int 0)) 2 4 (.ref A)) I L R ++ tl = pC (vup V 2 4 (.ref A)) I L R tl 0 (I 13) := by
    unfold pC
    rw [iup_self, v24]
    rfl
  have lp := c_64l (V := vup V 2 4 (.ref A)) (I := I) (L := L) (R := R) (tl := tl) (N := N) (f := I 13) (by omega) h0 h3 vup_eq hA hit hp' hi h60 (fun k hk => itK_s hs hk) (txI_b hs h0 sz (Nat.le_refl _)) sz 0 N (by omega) (by omega) (fun i hi' => by rw [Nat.zero_add]; exact txI_b hs h0 i hi')
  have gp : ∀ (c : Nat) (f : Nat → Int32), pg (pC (vup V 2 4 (.ref A)) I L R tl c f) A it kd ln sz (sz * wdN kd) F := fun c f => hp' _ _ _ _ (fun j => vup_na hA) (iup_na hit)
  have g1 : ∀ (c : Nat) (f : Nat → Int32), am_vI (am_pG 769 (.ref A) (pC (vup V 2 4 (.ref A)) I L R tl c f)) = some (nI kd) := fun c f => pg_1 (gp c f)
  have g2 : ∀ (c : Nat) (f : Nat → Int32), am_vI (am_pG 770 (.ref A) (pC (vup V 2 4 (.ref A)) I L R tl c f)) = some (nI ln) := fun c f => by
    obtain ⟨wy, f1, f2, hw', nb, sd, p1, p2⟩ := gp c f
    exact ev_gI p1 rfl rfl
  unfold fm_64 fg_64_0
  refine ev_b qp_2_8 (ev_b qp_2_4 ?_)
  rw [st]
  refine ev_b (g1 _ _) (ev_t (fun e => h0 ((nI_eq (b := 0) (by omega) (by decide)).mp e)) (ev_b (g1 _ _) ?_))
  by_cases k3 : kd = 3
  · have l8 := (hs.2.2.2.2.2.2 k3).2.1
    subst k3
    refine ev_f (fun e => e rfl) (ev_b (g2 _ _) (ev_i rfl ?_))
    rw [(d48 ln (by omega)).1]
    refine ev_cV (c_68 (by decide) (by omega)) (ev_i rfl (ev_cV (c_68 (x := 58) (by decide) (by decide)) ?_))
    unfold fg_64_53
    exact lp
  · refine ev_t (fun e => k3 ((nI_eq (b := 3) (by omega) (by decide)).mp e)) ?_
    unfold fg_64_53
    have e0 : txI kd ln s v 0 = [] := hd_0 k3
    rw [e0] at lp
    exact lp
set_option maxRecDepth 100000 in
set_option maxHeartbeats 1600000 in
theorem pr_r {V : Nat → Nat → Value} {I : Nat → Nat → Int32} {L : Nat → Nat → Int64} {R : Nat → Nat → Option Nat} {tl : am_H} {N kd ln sz : Nat} {s v : Nat → Int32} (hN : 200 < N) (hs : sound kd ln sz s v) (h0 : kd ≠ 0) (hd : dsk V I kd ln sz s v) : fm_360 N (.ref 174) (fx V I L R ++ tl) = some (.inl (none, pR V I L R tl (txI kd ln s v sz).length (wrL (I 223) 0 (txI kd ln s v sz)))) := by
  have h3 := hs.1
  have h60 := hs.2.1
  have st : fx (vup V 174 78 (.int 0)) I L R ++ tl = pR V I L R tl 0 (I 223) := by
    unfold pR
    rw [iup_self]
    rfl
  unfold fm_360 fg_360_0
  refine ev_b qp_174_78 ?_
  rw [st]
  refine ev_b (d_13 hd.1) (ev_t (fun e => h0 ((nI_eq (b := 0) (by omega) (by decide)).mp e)) ?_)
  unfold fg_360_16
  have bnd : ∀ i, i ≤ sz → (txI kd ln s v (0 + i)).length ≤ 240 := fun i hi' => by rw [Nat.zero_add]; exact txI_b hs h0 i hi'
  rcases (by omega : kd = 1 ∨ kd = 2 ∨ kd = 3) with rfl | rfl | rfl
  · have lp := rp_18 (L := L) (R := R) (tl := tl) (N := N) (f := I 223) (by omega) hd h60 (fun k hk => itK_s hs hk) sz 0 N (by omega) (by omega) bnd
    rw [show txI 1 ln s v 0 = [] from rfl] at lp
    refine lp.trans ?_
    unfold fg_360_106
    rw [r_108n (by omega) hd (by decide) h60 (by decide)]
    exact r_186n (by omega) hd (by decide) h60 (by decide)
  · rw [r_18n (by omega) hd (by decide) h60 (by decide)]
    unfold fg_360_106
    have lp := r_108 (L := L) (R := R) (tl := tl) (N := N) (f := I 223) (by omega) hd h60 (fun k hk => itK_s hs hk) sz 0 N (by omega) (by omega) bnd
    rw [show txI 2 ln s v 0 = [] from rfl] at lp
    exact lp.trans (r_186n (by omega) hd (by decide) h60 (by decide))
  · rw [r_18n (by omega) hd (by decide) h60 (by decide)]
    unfold fg_360_106
    rw [r_108n (by omega) hd (by decide) h60 (by decide)]
    have l8 := (hs.2.2.2.2.2.2 rfl).2.1
    have lp := r_221 (L := L) (R := R) (tl := tl) (N := N) (f := I 223) (by omega) hd h60 (fun k hk => itK_s hs hk) sz 0 N (by omega) (by omega) bnd
    unfold fg_360_186
    refine ev_b (d_13 hd.1) (ev_f (fun e => e rfl) (ev_b (d_15 hd.2.2.1) (ev_i rfl ?_)))
    rw [(d48 ln (by omega)).2]
    refine ev_cV (r_362 (by decide)) ?_
    unfold fg_360_205
    refine ev_b (d_13 hd.1) (ev_f (fun e => e rfl) (ev_i rfl (ev_cV (r_362 (by decide)) ?_)))
    unfold fg_360_219
    exact lp
theorem v378 {V : Nat → Nat → Value} {x y : Value} : vup (vup V 174 78 x) 174 73 y = vup (vup V 174 73 y) 174 78 x := by
  funext e j
  by_cases c1 : e = 174 ∧ j = 73
  · obtain ⟨c2, c3⟩ := c1
    subst c2
    subst c3
    rw [vup_eq, vup_nj (by decide), vup_eq]
  · by_cases c2 : e = 174 ∧ j = 78
    · obtain ⟨c3, c4⟩ := c2
      subst c3
      subst c4
      rw [vup_nj (by decide), vup_eq, vup_eq]
    · rw [vup_o c1, vup_o c2, vup_o c2, vup_o c1]
theorem okF_20 : ∀ (l : List (Nat × Nat)) (cs : List (Nat × Nat × Nat)), okF cs l → ∀ x, x ∈ l → x.1 ≤ 20 := by
  intro l
  induction l with
  | nil => intro cs _ x hx; exact absurd hx List.not_mem_nil
  | cons y l ih =>
    intro cs h x hx
    cases cs with
    | nil => exact absurd h (fun e => e)
    | cons c cs =>
      rcases List.mem_cons.mp hx with e | e
      · rw [e]; exact h.1
      · exact ih _ h.2.2.2.2.2 x e
set_option maxRecDepth 100000 in
set_option maxHeartbeats 1600000 in
/-- what both print -/
theorem pr_all {V0 : Nat → Nat → Value} {I0 : Nat → Nat → Int32} {tl0 : am_H} {A0 it0 : Nat} {F0 : Nat → Int32} {N kd ln sz : Nat} {s v : Nat → Int32} (hN : 200 < N) (hs : sound kd ln sz s v) (hp0 : prA V0 I0 tl0 A0 it0 kd ln sz (sz * wdN kd) F0) (hi0 : itm kd s v sz F0) (hA0 : A0 ≠ 2) (hit0 : it0 ≠ 13) : ∃ T : List Nat, T.length ≤ 240 ∧ (∀ (V : Nat → Nat → Value) (I : Nat → Nat → Int32) (L : Nat → Nat → Int64) (R : Nat → Nat → Option Nat) (tl : am_H) (A it : Nat) (F : Nat → Int32), prA V I tl A it kd ln sz (sz * wdN kd) F → itm kd s v sz F → A ≠ 2 → it ≠ 13 → fm_64 N (.ref 2) (.ref A) (fx V I L R ++ tl) = some (.inl (some (.int (nI T.length)), pC (vup V 2 4 (.ref A)) I L R tl T.length (wrL (I 13) 0 T)))) ∧ (∀ (V : Nat → Nat → Value) (I : Nat → Nat → Int32) (L : Nat → Nat → Int64) (R : Nat → Nat → Option Nat) (tl : am_H), dsk V I kd ln sz s v → ∃ W J, fm_360 N (.ref 174) (fx V I L R ++ tl) = some (.inl (none, pR W J L R tl T.length (wrL (I 223) 0 T))) ∧ (∀ a j, ¬ (a = 174 ∧ j = 73) → W a j = V a j) ∧ (∀ y, y ≠ 220 → y ≠ 221 → J y = I y) ∧ (wt V → wt W)) := by
  by_cases h0 : kd = 0
  · subst h0
    have h60 := hs.2.1
    obtain ⟨s1, s2⟩ := hs.2.2.1 (by decide)
    subst s2
    obtain ⟨lst, l1, l2, l3⟩ := hs.2.2.2.1 rfl
    have k20 : ∀ k x r, lst.drop k = x :: r → x.1 ≤ 20 := fun k x r e => okF_20 _ _ l2 x (List.mem_of_mem_drop (by rw [e]; exact List.mem_cons_self))
    -- the class's text
    have key : ∀ (V : Nat → Nat → Value) (I : Nat → Nat → Int32) (L : Nat → Nat → Int64) (R : Nat → Nat → Option Nat) (tl : am_H) (A it : Nat) (F : Nat → Int32), prA V I tl A it 0 0 sz (sz * wdN 0) F → itm 0 s v sz F → A ≠ 2 → it ≠ 13 → V 2 4 = .ref A → fm_65 N (.ref 2) 0 1 (pC V I L R tl 0 (I 13)) = some (.inl (some (.int (nI sz)), pC V I L R tl (txS v 0 [] lst).length (wrL (I 13) 0 (txS v 0 [] lst)))) ∧ (txS v 0 [] lst).length ≤ 240 := fun V I L R tl A it F hp hi hA hit h4 => by
      obtain ⟨B, r, g1, g2, g3, g4, g5⟩ := c_65 (V := V) (I := I) (L := L) (R := R) (tl := tl) (N := N) (lst := lst) (by omega) ⟨h4, hA, hit, hp, hi, h60, l1, fun k x r e => ⟨(l3 k x r e).1, (l3 k x r e).2.1⟩⟩ lst.length 0 1 40 0 (I 13) (0, 1, 0) [] (by omega) (by omega) rfl (by decide) l2 (by decide)
      have hr : r = sz := by
        have e : lst.drop r = [] := by
          have h := g3.2
          rw [Nat.zero_add] at h
          cases hd : lst.drop r with
          | nil => rfl
          | cons y l => rw [hd] at h; exact absurd h (fun e => e)
        have e2 := congrArg List.length e
        rw [List.length_drop, List.length_nil] at e2
        have := g3.1
        omega
      subst hr
      have t := g5 []
      have e3 : lst.drop (0 + r) = [] := List.drop_eq_nil_of_le (by omega)
      rw [List.drop_zero, e3] at t
      have t2 : txS v 0 [] lst = B := t.trans (by show B ++ [] = B; exact List.append_nil B)
      rw [t2]
      rw [Nat.zero_add, Nat.zero_add] at g1
      exact ⟨g1, by omega⟩
    have tb : (txS v 0 [] lst).length ≤ 240 := (key (vup V0 2 4 (.ref A0)) I0 (fun _ _ => 0) (fun _ _ => none) tl0 A0 it0 F0 (prA_c (fun j => vup_na hA0) rfl hp0) hi0 hA0 hit0 vup_eq).2
    refine ⟨txS v 0 [] lst, ?_, fun V I L R tl A it F hp hi hA hit => ?_, fun V I L R tl hd => ?_⟩
    · exact tb
    · have hp' : prA (vup V 2 4 (.ref A)) I tl A it 0 0 sz (sz * wdN 0) F := prA_c (fun j => vup_na hA) rfl hp
      have st : fx (vup (vup V 2 8 (.int 0)) 2 4 (.ref A)) I L R ++ tl = pC (vup V 2 4 (.ref A)) I L R tl 0 (I 13) := by
        unfold pC
        rw [iup_self, v24]
        rfl
      have gp : ∀ (c : Nat) (f : Nat → Int32), pg (pC (vup V 2 4 (.ref A)) I L R tl c f) A it 0 0 sz (sz * wdN 0) F := fun c f => hp' _ _ _ _ (fun j => vup_na hA) (iup_na hit)
      have q1 : ∀ (c : Nat) (f : Nat → Int32), am_vI (am_pG 769 (.ref A) (pC (vup V 2 4 (.ref A)) I L R tl c f)) = some (nI 0) := fun c f => pg_1 (gp c f)
      obtain ⟨k1, k2⟩ := key (vup V 2 4 (.ref A)) I L R tl A it F hp' hi hA hit vup_eq
      unfold fm_64 fg_64_0
      refine ev_b qp_2_8 (ev_b qp_2_4 ?_)
      rw [st]
      refine ev_b (q1 _ _) (ev_f (fun e => e rfl) (ev_i rfl (ev_cI k1 ?_)))
      unfold fg_64_53
      obtain ⟨M, hM⟩ : ∃ m, N = m + 1 := ⟨N - 1, by omega⟩
      rw [show fg_64_55 N N = fg_64_55 N (M + 1) by rw [← hM], fg_64_55]
      refine ev_b (q1 _ _) (ev_t rfl ?_)
      unfold fg_64_121
      exact ev_b (a := nI (txS v 0 [] lst).length) rfl rfl
    · have st : fx (vup V 174 78 (.int 0)) I L R ++ tl = pR V I L R tl 0 (I 223) := by
        unfold pR
        rw [iup_self]
        rfl
      obtain ⟨d, a', b', g⟩ := r_361 (V := V) (I := I) (L := L) (R := R) (tl := tl) (N := N) (lst := lst) (s := s) (v := v) (by omega) hd.2.1 h60 l1 (fun k x r e => by
        have hk : k < sz := by
          have e2 := congrArg List.length e
          rw [List.length_drop, List.length_cons] at e2
          omega
        exact ⟨(hd.2.2.2 k hk).1.trans (l3 k x r e).1, (hd.2.2.2 k hk).2, k20 k x r e, (l3 k x r e).2.1⟩) sz 0 N 0 (I 223) (I 220) (I 221) [] (by omega) (by omega) (Nat.le_refl _) trivial (by rw [Nat.zero_add]; exact tb)
      have hdq : dsk (vup V 174 73 (.int (nI d))) (iup (iup I 220 a') 221 b') 0 0 sz s v := by
        refine ⟨(vup_nj (by decide)).trans hd.1, (vup_nj (by decide)).trans hd.2.1, (vup_nj (by decide)).trans hd.2.2.1, fun k hk => ?_⟩
        rw [iup_na (by decide), iup_na (by decide), iup_na (by decide), iup_na (by decide)]
        exact hd.2.2.2 k hk
      refine ⟨vup V 174 73 (.int (nI d)), iup (iup I 220 a') 221 b', ?_, fun a j h => vup_o h, fun y h1 h2 => by rw [iup_na h2, iup_na h1], fun w => wt_i w (by decide)⟩
      unfold fm_360 fg_360_0
      refine ev_b qp_174_78 ?_
      rw [st]
      refine ev_b (d_13 hd.1) (ev_f (fun e => e rfl) (ev_i rfl ?_))
      unfold fm_361 fg_361_0
      have e73 : am_pP 3145 (.ref 174) (.int 0) (pR V I L R tl 0 (I 223)) = some (qR V I L R tl 0 (I 223) 0 (I 220) (I 221)) := by
        have e : pR V I L R tl 0 (I 223) = fx (vup V 174 78 (.int (nI 0))) (iup I 223 (I 223)) L R ++ tl := rfl
        rw [e, qp_174_73]
        unfold qR pR
        rw [show iup I 220 (I 220) = I from iup_self, show iup I 221 (I 221) = I from iup_self, show iup I 223 (I 223) = I from iup_self, v378]
        rfl
      refine ev_cV (ev_b e73 g) ?_
      unfold fg_360_16
      rw [Nat.zero_add]
      show fg_360_18 N N (.ref 174) 0 (pR (vup V 174 73 (.int (nI d))) (iup (iup I 220 a') 221 b') L R tl (txS v 0 [] lst).length (wrL (I 223) 0 (txS v 0 [] lst))) = _
      rw [r_18n (by omega) hdq (by decide) h60 (by decide)]
      unfold fg_360_106
      rw [r_108n (by omega) hdq (by decide) h60 (by decide)]
      exact r_186n (by omega) hdq (by decide) h60 (by decide)
  · exact ⟨txI kd ln s v sz, txI_b hs h0 sz (Nat.le_refl _), fun V I L R tl A it F hp hi hA hit => pr_c hN hs h0 hp hi hA hit, fun V I L R tl hd => ⟨V, I, pr_r hN hs h0 hd, fun _ _ _ => rfl, fun _ _ _ => rfl, id⟩⟩

theorem kp_pc {V : Nat → Nat → Value} {I : Nat → Nat → Int32} {A c : Nat} {f : Nat → Int32} : keep V (vup (vup V 2 4 (.ref A)) 2 8 (.int (nI c))) I (iup I 13 f) := ⟨fun a j hj => by
    have n2 : a = 2 → j ≠ 4 ∧ j ≠ 8 := fun e => by
      subst e
      have key : ∀ j, j ∈ vRel 2 → j ≠ 4 ∧ j ≠ 8 := by decide
      exact key j hj
    rw [vup_o (fun e => (n2 e.1).2 e.2), vup_o (fun e => (n2 e.1).1 e.2)], fun y hy => iup_na (fun e => by subst e; revert hy; decide), fun w => wt_i (wt_o (by decide) (by decide) w) (by decide)⟩
theorem kp_dk {V : Nat → Nat → Value} {I : Nat → Nat → Int32} {kd ln sz b : Nat} : keep V (dkV V kd ln sz) I (dkI I b sz) := (frT_k (frT_d (V := V) (I := I) (L := fun _ _ => 0) (kd := kd) (ln := ln) (sz := sz) (b := b))).1
theorem kp_pr {V W : Nat → Nat → Value} {I J : Nat → Nat → Int32} {c : Nat} {f : Nat → Int32} (h1 : ∀ a j, ¬ (a = 174 ∧ j = 73) → W a j = V a j) (h2 : ∀ y, y ≠ 220 → y ≠ 221 → J y = I y) (h3 : wt V → wt W) : keep V (vup W 174 78 (.int (nI c))) I (iup J 223 f) := ⟨fun a j hj => by
    have n2 : a = 174 → j ≠ 73 ∧ j ≠ 78 := fun e => by
      subst e
      have key : ∀ j, j ∈ vRel 174 → j ≠ 73 ∧ j ≠ 78 := by decide
      exact key j hj
    rw [vup_o (fun e => (n2 e.1).2 e.2)]
    exact h1 a j (fun e => (n2 e.1).1 e.2), fun y hy => by
    have ny : y ≠ 223 ∧ y ≠ 220 ∧ y ≠ 221 := by
      have key : ∀ y, y ∈ iRel → y ≠ 223 ∧ y ≠ 220 ∧ y ≠ 221 := by decide
      exact key y hy
    rw [iup_na ny.1]
    exact h2 y ny.2.1 ny.2.2, fun w => wt_i (h3 w) (by decide)⟩
theorem dsk_b {V : Nat → Nat → Value} {I : Nat → Nat → Int32} {kd ln sz b : Nat} (hs : sz ≤ 60) : dsk (dkV V kd ln sz) (dkI I b sz) kd ln sz (fun k => I 184 (60 * b + k)) (fun k => I 185 (60 * b + k)) := by
  refine ⟨(vup_nj (by decide)).trans ((vup_nj (by decide)).trans vup_eq), (vup_nj (by decide)).trans vup_eq, vup_eq, fun k hk => ?_⟩
  unfold dkI
  rw [iup_na (by decide), iup_eq, iup_eq]
  exact ⟨ldr_at hk, ldr_at hk⟩
/-! printed(b) -/
set_option maxRecDepth 100000 in
set_option maxHeartbeats 1600000 in
theorem u_2 {V : Nat → Nat → Value} {I : Nat → Nat → Int32} {L : Nat → Nat → Int64} {R : Nat → Nat → Option Nat} {tl : am_H} {n p j : Nat} (hr : rel V I L R tl n p) (hm : room tl n p j) {N : Nat} (hN : 5000 < N) (a1 : Int32) : ∃ h', opBI (fm_61 N (.ref 0) a1 (.ref 268) (fx V I L R ++ tl)) (fun h1 => fm_357 N (.ref 174) a1 h1) vfI h' ∧ invW (j + 1) h' := by
  obtain ⟨b1, b2, b3⟩ := hr.1
  rcases dich a1 (n := n) (by omega) with hn | ⟨b, hb, rfl⟩
  · refine ⟨_, opBI_err (c := 1) (b := 0) (by decide) (tl := tl ++ [am_dummy]) ?_ ?_, inv_mk (rel_thr 1 (rel_dum hr)) (room_dum hm)⟩
    · have e : fm_62 N (.ref 0) a1 (fx V I L R ++ tl) = some (.inr (2, (fx V I L R ++ (tl ++ [am_dummy])))) := by
        unfold fm_62 fg_62_0
        refine ev_b (a := Value.ref 2) rfl (ev_i rfl ?_)
        rw [c_63n b2 hn]
        rfl
      unfold fm_61 fg_61_0
      refine ev_i rfl ?_
      rw [e]
      rfl
    · show fm_357 N (.ref 174) a1 (fx V I L R ++ (tl ++ [am_dummy])) = _
      unfold fm_357 fg_357_0
      refine ev_i rfl (ev_cI (r_358n b3 b1 hn) (ev_t rfl ?_))
      unfold fg_357_14
      exact ev_b qp_174_0 (ev_b (a := 1) rfl (ev_f (by decide) rfl))
  · obtain ⟨q1, q2, q3, q4, a, it, f, q5, q6, q7⟩ := bK_r hr hb
    have s60 := q4.2.1
    obtain ⟨T, tl240, pc, pr⟩ := pr_all (N := N) (by omega) q4 (q6 V I) q7 (by omega) (by omega)
    have e1 := pc V I L R tl (269 + a) (269 + it) f (q6 V I) q7 (by omega) (by omega)
    obtain ⟨W1, hW1⟩ : ∃ W1, W1 = vup (vup V 2 4 (.ref (269 + a))) 2 8 (.int (nI T.length)) := ⟨_, rfl⟩
    obtain ⟨J1, hJ1⟩ : ∃ J1, J1 = iup I 13 (wrL (I 13) 0 T) := ⟨_, rfl⟩
    have e1' : fm_64 N (.ref 2) (.ref (269 + a)) (fx V I L R ++ tl) = some (.inl (some (.int (nI T.length)), fx W1 J1 L R ++ tl)) := by
      rw [hW1, hJ1]
      exact e1
    have k1 : keep V W1 I J1 := by rw [hW1, hJ1]; exact kp_pc
    have k4 := keep_t k1 (keep_0 (V := W1) (I := J1) (x := 0))
    obtain ⟨M1, hM1⟩ : ∃ M1, M1 = outL L (nI T.length).toInt64 := ⟨_, rfl⟩
    have e2 := r_359 (V := vup W1 174 0 (.int 0)) (I := J1) (L := M1) (R := R) (tl := tl) (N := N) (b := b) (kd := kdB I b) (ln := lnB I b) (sz := szB I b) (by omega) (by omega) s60 (by rw [k1.2.1 175 (by decide)]; exact q1) (by rw [k1.2.1 176 (by decide)]; exact q2) (by rw [k1.2.1 177 (by decide)]; exact q3)
    have hd := dsk_b (V := vup W1 174 0 (.int 0)) (I := J1) (kd := kdB I b) (ln := lnB I b) (b := b) s60
    rw [k1.2.1 184 (by decide), k1.2.1 185 (by decide)] at hd
    obtain ⟨W2, J2, e3, g1, g2, g3⟩ := pr (dkV (vup W1 174 0 (.int 0)) (kdB I b) (lnB I b) (szB I b)) (dkI J1 b (szB I b)) M1 R tl hd
    have kF := keep_t (keep_t k4 (kp_dk (kd := kdB I b) (ln := lnB I b) (sz := szB I b) (b := b))) (kp_pr (c := T.length) (f := wrL (dkI J1 b (szB I b) 223) 0 T) g1 g2 g3)
    refine ⟨_, opBI_g (v := nI T.length) (W := W1) (J := J1) (M := M1) (R1 := R) (t1 := tl) (W' := vup W2 174 78 (.int (nI T.length))) (J' := iup J2 223 (wrL (dkI J1 b (szB I b) 223) 0 T)) (M' := M1) (R2 := R) (t2 := tl) ?_ ?_ ?_ ?_, inv_mk (by rw [hM1]; exact rel_ol _ (rel_k kF hr)) (room_up hm)⟩
    · have e : fm_62 N (.ref 0) (nI b) (fx V I L R ++ tl) = some (.inl (some (.int (nI T.length)), fx W1 J1 L R ++ tl)) := by
        unfold fm_62 fg_62_0
        exact ev_b (a := Value.ref 2) rfl (ev_i rfl (ev_cR (c_63 b2 b1 hb q5) rfl (ev_i rfl (ev_cI e1' rfl))))
      unfold fm_61 fg_61_0
      refine ev_i rfl ?_
      rw [e, hM1]
      exact ev_b out_s rfl
    · show fm_357 N (.ref 174) (nI b) (fx W1 J1 M1 R ++ tl) = _
      unfold fm_357 fg_357_0
      refine ev_i rfl (ev_cI (r_358 ((k1.1 174 1 (by decide)).trans b3) b1 hb) (ev_f (by decide) ?_))
      unfold fg_357_14
      exact ev_b qp_174_0 (ev_b (a := 0) rfl (ev_t (by decide) (ev_i rfl (ev_cV e2 (ev_i rfl (ev_cV e3 (ev_b (a := nI T.length) rfl rfl)))))))
    · rw [vup_o (by decide), g1 174 0 (by decide), dk_o (fun _ => by decide)]
      exact vup_eq
    · rw [hM1]
      rfl
/-! letter(b, i) -/
set_option maxRecDepth 100000 in
set_option maxHeartbeats 1600000 in
theorem u_3 {V : Nat → Nat → Value} {I : Nat → Nat → Int32} {L : Nat → Nat → Int64} {R : Nat → Nat → Option Nat} {tl : am_H} {n p j : Nat} (hr : rel V I L R tl n p) (hm : room tl n p j) {N : Nat} (hN : 5000 < N) (a1 a2 : Int32) : ∃ h', opBI (fm_70 N (.ref 0) a1 a2 (.ref 268) (fx V I L R ++ tl)) (fun h1 => fm_368 N (.ref 174) a1 a2 h1) vfI h' ∧ invW (j + 1) h' := by
  obtain ⟨b1, b2, b3⟩ := hr.1
  rcases dich a1 (n := n) (by omega) with hn | ⟨b, hb, rfl⟩
  · refine ⟨_, opBI_err (c := 1) (b := 0) (by decide) (tl := tl ++ [am_dummy]) ?_ ?_, inv_mk (rel_thr 1 (rel_dum hr)) (room_dum hm)⟩
    · have e : fm_71 N (.ref 0) a1 a2 (fx V I L R ++ tl) = some (.inr (2, (fx V I L R ++ (tl ++ [am_dummy])))) := by
        unfold fm_71 fg_71_0
        refine ev_b (a := Value.ref 2) rfl (ev_i rfl ?_)
        rw [c_63n b2 hn]
        rfl
      unfold fm_70 fg_70_0
      refine ev_i rfl ?_
      rw [e]
      rfl
    · show fm_368 N (.ref 174) a1 a2 (fx V I L R ++ (tl ++ [am_dummy])) = _
      unfold fm_368 fg_368_0
      refine ev_i rfl (ev_cI (r_358n b3 b1 hn) (ev_t rfl ?_))
      unfold fg_368_14
      exact ev_b qp_174_0 (ev_b (a := 1) rfl (ev_f (by decide) rfl))
  · obtain ⟨q1, q2, q3, q4, a, it, f, q5, q6, q7⟩ := bK_r hr hb
    have s60 := q4.2.1
    obtain ⟨T, tl240, pc, pr⟩ := pr_all (N := N) (by omega) q4 (q6 V I) q7 (by omega) (by omega)
    have e1 := pc V I L R tl (269 + a) (269 + it) f (q6 V I) q7 (by omega) (by omega)
    obtain ⟨W1, hW1⟩ : ∃ W1, W1 = vup (vup V 2 4 (.ref (269 + a))) 2 8 (.int (nI T.length)) := ⟨_, rfl⟩
    obtain ⟨J1, hJ1⟩ : ∃ J1, J1 = iup I 13 (wrL (I 13) 0 T) := ⟨_, rfl⟩
    have e1' : fm_64 N (.ref 2) (.ref (269 + a)) (fx V I L R ++ tl) = some (.inl (some (.int (nI T.length)), fx W1 J1 L R ++ tl)) := by
      rw [hW1, hJ1]
      exact e1
    have k1 : keep V W1 I J1 := by rw [hW1, hJ1]; exact kp_pc
    have k4 := keep_t k1 (keep_0 (V := W1) (I := J1) (x := 0))
    obtain ⟨w, hw⟩ : ∃ w : Int32, w = (if a2 < 0 ∨ nI T.length ≤ a2 then -1 else wrL (I 13) 0 T a2.toNatClampNeg) := ⟨_, rfl⟩
    obtain ⟨M1, hM1⟩ : ∃ M1, M1 = outL L w.toInt64 := ⟨_, rfl⟩
    have e2 := r_359 (V := vup W1 174 0 (.int 0)) (I := J1) (L := M1) (R := R) (tl := tl) (N := N) (b := b) (kd := kdB I b) (ln := lnB I b) (sz := szB I b) (by omega) (by omega) s60 (by rw [k1.2.1 175 (by decide)]; exact q1) (by rw [k1.2.1 176 (by decide)]; exact q2) (by rw [k1.2.1 177 (by decide)]; exact q3)
    have hd := dsk_b (V := vup W1 174 0 (.int 0)) (I := J1) (kd := kdB I b) (ln := lnB I b) (b := b) s60
    rw [k1.2.1 184 (by decide), k1.2.1 185 (by decide)] at hd
    obtain ⟨W2, J2, e3, g1, g2, g3⟩ := pr (dkV (vup W1 174 0 (.int 0)) (kdB I b) (lnB I b) (szB I b)) (dkI J1 b (szB I b)) M1 R tl hd
    have kF := keep_t (keep_t k4 (kp_dk (kd := kdB I b) (ln := lnB I b) (sz := szB I b) (b := b))) (kp_pr (c := T.length) (f := wrL (dkI J1 b (szB I b) 223) 0 T) g1 g2 g3)
    refine ⟨_, opBI_g (v := w) (W := W1) (J := J1) (M := M1) (R1 := R) (t1 := tl) (W' := vup W2 174 78 (.int (nI T.length))) (J' := iup J2 223 (wrL (dkI J1 b (szB I b) 223) 0 T)) (M' := M1) (R2 := R) (t2 := tl) ?_ ?_ ?_ ?_, inv_mk (by rw [hM1]; exact rel_ol _ (rel_k kF hr)) (room_up hm)⟩
    · have e : fm_71 N (.ref 0) (nI b) a2 (fx V I L R ++ tl) = some (.inl (some (.int w), fx W1 J1 L R ++ tl)) := by
        unfold fm_71 fg_71_0
        refine ev_b (a := Value.ref 2) rfl (ev_i rfl (ev_cR (c_63 b2 b1 hb q5) rfl (ev_i rfl (ev_cI e1' ?_))))
        rcases dich a2 (n := T.length) (by omega) with hn | ⟨i, hi, rfl⟩
        · rw [if_pos hn] at hw
          rw [hw]
          by_cases c : a2 < 0
          · exact ev_t c rfl
          · exact ev_f c (ev_t (hn.resolve_left c) rfl)
        · have hn : ¬ (nI i < 0 ∨ nI T.length ≤ nI i) := fun e => e.elim (nI_pos (by omega)) (nI_ge hi (by omega))
          rw [if_neg hn, nI_clamp (by omega)] at hw
          refine ev_f (nI_pos (by omega)) (ev_f (nI_ge hi (by omega)) (ev_b (a := Value.ref 2) rfl (ev_i rfl ?_)))
          have e72 : fm_72 (.ref 2) (nI i) (fx W1 J1 L R ++ tl) = some (.inl (some (.int w), fx W1 J1 L R ++ tl)) := by
            unfold fm_72 fg_72_0
            refine ev_f (nI_pos (by omega)) (ev_b (a := nI T.length) (by rw [hW1]; rfl) (ev_f (nI_ge hi (by omega)) (ev_b (a := Value.ref 13) rfl (ev_b (a := w) ((qa_13 (by omega)).trans (by rw [hJ1, iup_eq, hw])) rfl))))
          exact ev_cI e72 rfl
      unfold fm_70 fg_70_0
      refine ev_i rfl ?_
      rw [e, hM1]
      exact ev_b out_s rfl
    · show fm_368 N (.ref 174) (nI b) a2 (fx W1 J1 M1 R ++ tl) = _
      unfold fm_368 fg_368_0
      refine ev_i rfl (ev_cI (r_358 ((k1.1 174 1 (by decide)).trans b3) b1 hb) (ev_f (by decide) ?_))
      unfold fg_368_14
      refine ev_b qp_174_0 (ev_b (a := 0) rfl (ev_t (by decide) (ev_i rfl (ev_cV e2 (ev_i rfl (ev_cV e3 (ev_b (a := nI T.length) rfl (ev_cI (pe_327 _ _ _ _) ?_))))))))
      rcases dich a2 (n := T.length) (by omega) with hn | ⟨i, hi, rfl⟩
      · rw [if_pos hn] at hw
        rw [hw, in_b (by omega) hn]
        exact ev_t rfl rfl
      · have hn : ¬ (nI i < 0 ∨ nI T.length ≤ nI i) := fun e => e.elim (nI_pos (by omega)) (nI_ge hi (by omega))
        rw [if_neg hn, nI_clamp (by omega)] at hw
        rw [in_n hi (by omega)]
        obtain ⟨x, r, hx⟩ : ∃ x r, T.drop i = x :: r := ⟨_, _, List.drop_eq_getElem_cons (by omega)⟩
        have w1 := wrL_at T (I 13) 0 i x r hx
        have w2 := wrL_at T (dkI J1 b (szB I b) 223) 0 i x r hx
        rw [Nat.zero_add] at w1 w2
        refine ev_f (by decide) (ev_b (a := Value.ref 223) rfl (ev_b (a := w) ((qa_223 (by omega)).trans (by rw [iup_eq, w2, hw, w1])) rfl))
    · rw [vup_o (by decide), g1 174 0 (by decide), dk_o (fun _ => by decide)]
      exact vup_eq
    · rw [hM1]
      rfl
