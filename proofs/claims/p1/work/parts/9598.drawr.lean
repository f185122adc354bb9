/-! ===== the reference draws code ===== -/
theorem u56 : ∀ n, n < 13 → ∀ c, c < 2 → uW c 5 n = 0 ∧ uW c 6 n = 0 := by decide +kernel
theorem pc2 {c S q : Nat} (hc : c < 2) (hS : S ≠ 19) : pcN c S q < 2 := by
  have h1 := tw_le S q
  unfold pcN pwN
  rw [if_neg (fun e => hS e.1)]
  omega
theorem prt_c {c n S P : Nat} (hc : c < 2) (hS : S ≠ 19) : ∀ y, y ∈ prt c n S P → y.1 < 2 := by
  intro y hy
  have a0 := pc2 (q := 0) hc hS
  have a1 := pc2 (q := 1) hc hS
  unfold prt at hy
  split at hy
  · cases hy
  · split at hy
    · rcases List.mem_cons.mp hy with h | h
      · rw [h]; exact a0
      · cases h
    · split at hy
      · rcases List.mem_cons.mp hy with h | h
        · rw [h]; exact a0
        · rcases List.mem_cons.mp h with h | h
          · rw [h]; exact a1
          · cases h
      · rcases List.mem_cons.mp hy with h | h
        · rw [h]; exact a0
        · rcases List.mem_cons.mp h with h | h
          · rw [h]; exact a1
          · rcases List.mem_cons.mp h with h | h
            · rw [h]; exact a1
            · cases h
/-- a tree of world 0 without a node 19 has neither a 5 nor a 6 -/
theorem un_no : ∀ n, n ≤ 12 → 1 ≤ n → ∀ c p, c < 2 → p < uT c n → (∀ x, x ∈ un c n p → x.1 ≠ 19) → ∀ x, x ∈ un c n p → x.1 ≠ 5 ∧ x.1 ≠ 6 := by
  intro n
  induction n using Nat.strongRecOn with
  | _ n ih =>
    intro hn h1 c p hc hp
    have aux : ∀ st : List (Nat × Nat × Nat), tok st → tsum st < n → (∀ y, y ∈ st → y.1 < 2) → (∀ x, x ∈ tun st → x.1 ≠ 19) → ∀ x, x ∈ tun st → x.1 ≠ 5 ∧ x.1 ≠ 6 := by
      intro st
      induction st with
      | nil => intro _ _ _ _ x hx; cases hx
      | cons y st ih2 =>
        intro h2 h3 h4 h5 x hx
        obtain ⟨k1, k2, k3, k4, k5⟩ := h2
        have h3 : y.2.1 + tsum st < n := h3
        have h5 : ∀ x, x ∈ un y.1 y.2.1 y.2.2 ++ tun st → x.1 ≠ 19 := h5
        have hx : x ∈ un y.1 y.2.1 y.2.2 ++ tun st := hx
        rcases List.mem_append.mp hx with h | h
        · exact ih y.2.1 (by omega) k3 k2 y.1 y.2.2 (h4 y (List.mem_cons_self ..)) k4 (fun x hx => h5 x (List.mem_append.mpr (Or.inl hx))) x h
        · exact ih2 k5 (by omega) (fun z hz => h4 z (List.mem_cons_of_mem _ hz)) (fun x hx => h5 x (List.mem_append.mpr (Or.inr hx))) x h
    obtain ⟨v1, v2, v3, v4, v5⟩ := un_prt hn h1 (show c < 6 by omega) hp
    rw [v1]
    intro h19 x hx
    have hS := h19 ((pk c n 20 0 p).1, if (pk c n 20 0 p).1 = 0 then (pk c n 20 0 p).2 else 0) (List.mem_cons_self ..)
    have hS : (pk c n 20 0 p).1 ≠ 19 := hS
    rcases List.mem_cons.mp hx with h | h
    · rw [h]
      obtain ⟨z5, z6⟩ := u56 n (by omega) c hc
      refine ⟨fun e => ?_, fun e => ?_⟩
      · have e : (pk c n 20 0 p).1 = 5 := e
        rw [e] at v5
        omega
      · have e : (pk c n 20 0 p).1 = 6 := e
        rw [e] at v5
        omega
    · exact aux _ v2 (by omega) (prt_c hc hS) (fun x hx => h19 x (List.mem_cons_of_mem _ hx)) x h
theorem mem_drop {l r : List (Nat × Nat)} {x : Nat × Nat} {k : Nat} (h : l.drop k = x :: r) : x ∈ l := List.mem_of_mem_drop (show x ∈ l.drop k by rw [h]; exact List.mem_cons_self ..)
theorem drop_mem : ∀ {l : List (Nat × Nat)} {x : Nat × Nat}, x ∈ l → ∃ k r, l.drop k = x :: r := by
  intro l
  induction l with
  | nil => intro x h; cases h
  | cons y l ih =>
    intro x h
    rcases List.mem_cons.mp h with e | e
    · exact ⟨0, l, by rw [e]; rfl⟩
    · obtain ⟨k, r, h1⟩ := ih e
      exact ⟨k + 1, r, by rw [List.drop_succ_cons]; exact h1⟩
set_option maxRecDepth 100000 in
set_option maxHeartbeats 4000000 in
theorem r_451 {V : Nat → Nat → Value} {I : Nat → Nat → Int32} {L : Nat → Nat → Int64} {R : Nat → Nat → Option Nat} {tl : am_H} {nt : Int32} (h20 : V 174 20 = .int 0) (h19 : V 174 19 = .int nt) : fm_451 (.ref 174) (fx V I L R ++ tl) = some (.inl (none, fx (vup (vup (vup V 174 13 (.int 0)) 174 15 (.int nt)) 174 14 (.int 0)) I L R ++ tl)) := by
  unfold fm_451 fg_451_0
  refine ev_b (a := (0 : Int32)) (by show am_vI (some (V 174 20)) = _; rw [h20]; rfl) ?_
  refine ev_b (a := fx (vup V 174 13 (.int 0)) I L R ++ tl) (ev_p rfl rfl rfl rfl) ?_
  refine ev_b (a := nt) (by show am_vI (some (V 174 19)) = _; rw [h19]; rfl) ?_
  refine ev_b (a := fx (vup (vup V 174 13 (.int 0)) 174 15 (.int nt)) I L R ++ tl) (ev_p rfl rfl rfl rfl) ?_
  exact ev_b (a := fx (vup (vup (vup V 174 13 (.int 0)) 174 15 (.int nt)) 174 14 (.int 0)) I L R ++ tl) (ev_p rfl rfl rfl rfl) rfl
/-- what toCode() ends in -/
def tcOk (V : Nat → Nat → Value) (I : Nat → Nat → Int32) (L : Nat → Nat → Int64) (R : Nat → Nat → Option Nat) (tl : am_H) (o : Option am_O) : Prop := ∃ (v : Int32) (V' : Nat → Nat → Value) (I' : Nat → Nat → Int32) (s : Nat) (kd' nt' : Int32), o = some (.inl (some (.int v), fx V' I' L R ++ tl)) ∧ V' 174 13 = .int kd' ∧ V' 174 14 = .int (nI s) ∧ s ≤ 60 ∧ V' 174 15 = .int nt' ∧ (∀ j, j ≠ 13 → j ≠ 14 → j ≠ 15 → j ≠ 18 → j ≠ 19 → j ≠ 20 → V' 174 j = V 174 j) ∧ sml (I' 187) ∧ I' 234 = I 234
set_option maxRecDepth 100000 in
set_option maxHeartbeats 4000000 in
theorem r_494e {V : Nat → Nat → Value} {I : Nat → Nat → Int32} {L : Nat → Nat → Int64} {R : Nat → Nat → Option Nat} {tl : am_H} {N : Nat} {l : List (Nat × Nat)} {nt : Int32} (hN : 100 < N) (hl : l.length ≤ 20) (hF : isF 1 l) (h0 : 0 < l.length) (h18 : V 174 18 = .int (nI l.length)) (h19 : V 174 19 = .int nt) (h20 : V 174 20 = .int 0) (hS : rowS (I 188) l) (hT : rowT (I 192) l 0) (hC : rowC (I 253) l 0) (hV : ∀ j, j < l.length → ∃ n, n < 1000 ∧ I 189 j = nI n) (hb : sml (I 187)) (hx : ∀ k x r, l.drop k = x :: r → x.1 ≠ 5 ∧ x.1 ≠ 6 ∧ x.1 ≠ 19) (K : Nat) : tcOk V I L R tl (fg_494_34 N (K + 1) (.ref 174) (nI l.length) (fx V I L R ++ tl)) := by
  have hw := sw_le own_le l 1
  have hT0 : I 253 0 = nI (sw own 1 l) := by
    have := hC 0 (by omega) h0
    rw [List.drop_zero] at this
    exact this
  generalize hTT : sw own 1 l = T at hw hT0
  have gC : ∀ V : Nat → Nat → Value, am_pA 0 (.ref 253) 0 (fx V I L R ++ tl) = some (nI T) := fun V => by
    show am_pA 0 (.ref 253) (nI 0) (fx V I L R ++ tl) = some (nI T)
    rw [ev_a (f := I 253) (n := 61) rfl (am_inb_n (by omega) (by omega)), nI_clamp (by omega), hT0]
  have hp : pend l 0 (upd (I 219) 0 0) := ⟨1, by rw [List.drop_zero]; exact hF, fun i hi => by
    obtain rfl : i = 0 := by omega
    rw [tk_0, Nat.add_zero, List.drop_zero]
    exact ⟨0, upd_eq, by omega⟩⟩
  obtain ⟨v, a', b', e', g', q1, q2⟩ := r_494p (V := vup (vup (vup (vup (vup V 174 13 (.int 0)) 174 15 (.int nt)) 174 14 (.int 0)) 174 13 (.int 1)) 174 14 (.int (nI T))) (I := I) (L := L) (R := R) (tl := tl) (N := N) (s := T) (l := l) hN (by omega) (by rw [vup_v (by omega), vup_v (by omega), vup_v (by omega), vup_v (by omega), vup_v (by omega)]; exact h18) vup_eq (by omega) hS hT hC hV hx l.length 0 N (I 186) (I 187) (upd (I 219) 0 0) (by omega) (by omega) hb hp
  refine ⟨v, vup (vup (vup (vup (vup V 174 13 (.int 0)) 174 15 (.int nt)) 174 14 (.int 0)) 174 13 (.int 1)) 174 14 (.int (nI T)), iup (iup (iup (iup I 186 a') 187 b') 219 e') 211 g', T, 1, nt, ?_, ?_, vup_eq, by omega, ?_, ?_, q2, rfl⟩
  · have e1 : iup I 186 (I 186) = I := iup_self
    have e2 : iup I 187 (I 187) = I := iup_self
    unfold ctS at q1
    rw [e1, e2] at q1
    rw [fg_494_34]
    refine ev_b (a := nI l.length) (by show am_vI (some (V 174 18)) = _; rw [h18]; rfl) ?_
    refine ev_t (nI_le (Nat.le_refl _) (by omega)) (ev_b (a := .ref 253) rfl (ev_b (gC V) ?_))
    refine ev_t (show nI T ≤ nI 60 from nI_le (by omega) (by omega)) (ev_i rfl (ev_cV (r_451 h20 h19) ?_))
    refine ev_b (a := fx (vup (vup (vup (vup V 174 13 (.int 0)) 174 15 (.int nt)) 174 14 (.int 0)) 174 13 (.int 1)) I L R ++ tl) (ev_p rfl rfl rfl rfl) ?_
    refine ev_b (a := .ref 253) rfl (ev_b (gC _) ?_)
    refine ev_b (a := fx (vup (vup (vup (vup (vup V 174 13 (.int 0)) 174 15 (.int nt)) 174 14 (.int 0)) 174 13 (.int 1)) 174 14 (.int (nI T))) I L R ++ tl) (ev_p rfl rfl rfl rfl) ?_
    refine ev_b (a := .ref 219) rfl ?_
    refine ev_b (ev_s (f := I 219) (n := 61) (h1 := fx (vup (vup (vup (vup (vup V 174 13 (.int 0)) 174 15 (.int nt)) 174 14 (.int 0)) 174 13 (.int 1)) 174 14 (.int (nI T))) (iup I 219 (upd (I 219) 0 0)) L R ++ tl) rfl (am_inb_n (k := 0) (by omega) (by omega)) rfl rfl) ?_
    exact q1
  · rw [vup_v (by omega), vup_eq]
  · rw [vup_v (by omega), vup_v (by omega), vup_v (by omega), vup_eq]
  · intro j j1 j2 j3 _ _ _
    rw [vup_v j2, vup_v j1, vup_v j2, vup_v j3, vup_v j1]
set_option maxRecDepth 100000 in
set_option maxHeartbeats 4000000 in
theorem r_494q {V : Nat → Nat → Value} {I : Nat → Nat → Int32} {L : Nat → Nat → Int64} {R : Nat → Nat → Option Nat} {tl : am_H} {N s : Nat} {l : List (Nat × Nat)} {nt kd : Int32} (hN : 100 < N) (hl : l.length ≤ 20) (hF : isF 1 l) (h0 : 0 < l.length) (h13 : V 174 13 = .int kd) (h14 : V 174 14 = .int (nI s)) (hs : s ≤ 60) (h15 : V 174 15 = .int nt) (h18 : V 174 18 = .int (nI l.length)) (h19 : V 174 19 = .int nt) (h20 : V 174 20 = .int 0) (hS : rowS (I 188) l) (hT : rowT (I 192) l 0) (hC : rowC (I 253) l 0) (hV : ∀ j, j < l.length → ∃ n, n < 1000 ∧ I 189 j = nI n) (hb : sml (I 187)) (h56 : (∀ x, x ∈ l → x.1 ≠ 19) → ∀ x, x ∈ l → x.1 ≠ 5 ∧ x.1 ≠ 6) : ∀ (m k K : Nat), k + m = l.length → m < K → (∀ j x r, j < k → l.drop j = x :: r → x.1 ≠ 19) → tcOk V I L R tl (fg_494_34 N K (.ref 174) (nI k) (fx V I L R ++ tl)) := by
  have g18 : am_vI (am_pG 3090 (.ref 174) (fx V I L R ++ tl)) = some (nI l.length) := by show am_vI (some (V 174 18)) = _; rw [h18]; rfl
  intro m
  induction m with
  | zero =>
    intro k K hk hK hall
    obtain ⟨K, rfl⟩ : ∃ k, K = k + 1 := ⟨K - 1, by omega⟩
    have n19 : ∀ x, x ∈ l → x.1 ≠ 19 := fun x hx => by
      obtain ⟨j, r, hd⟩ := drop_mem hx
      exact hall j x r (by have := drop_len hd; omega) hd
    rw [show k = l.length by omega]
    exact r_494e hN hl hF h0 h18 h19 h20 hS hT hC hV hb (fun j x r hd => ⟨(h56 n19 x (mem_drop hd)).1, (h56 n19 x (mem_drop hd)).2, n19 x (mem_drop hd)⟩) K
  | succ m ih =>
    intro k K hk hK hall
    obtain ⟨K, rfl⟩ : ∃ k, K = k + 1 := ⟨K - 1, by omega⟩
    obtain ⟨x, r, mm, hd, -⟩ := isF_at hF (show k < l.length by omega)
    obtain ⟨s1, s2⟩ := hS k x r hd
    have gS : am_pA 0 (.ref 188) (nI k) (fx V I L R ++ tl) = some (nI x.1) := by rw [ev_a (f := I 188) (n := 400) rfl (am_inb_n (by omega) (by omega)), nI_clamp (by omega), s1]
    by_cases c : x.1 = 19
    · refine ⟨0, V, I, s, kd, nt, ?_, h13, h14, hs, h15, fun _ _ _ _ _ _ _ => rfl, hb, rfl⟩
      rw [fg_494_34]
      exact ev_b g18 (ev_f (nI_ge (by omega) (by omega)) (ev_b (a := .ref 188) rfl (ev_b gS (ev_f (fun e => e (by rw [c]; rfl)) rfl))))
    · obtain ⟨v, V', I', s', kd', nt', q1, q⟩ := ih (k + 1) K (by omega) (by omega) (fun j y t hj hy => by
        by_cases e : j = k
        · rw [e, hd] at hy
          cases hy
          exact c
        · exact hall j y t (by omega) hy)
      refine ⟨v, V', I', s', kd', nt', ?_, q⟩
      rw [fg_494_34]
      refine ev_b g18 (ev_f (nI_ge (by omega) (by omega)) (ev_b (a := .ref 188) rfl (ev_b gS (ev_t (fun e => c ((nI_eq (b := 19) (by omega) (by decide)).mp e)) ?_))))
      rw [nI_1]
      exact q1
set_option maxRecDepth 100000 in
set_option maxHeartbeats 4000000 in
theorem r_494c {V : Nat → Nat → Value} {I : Nat → Nat → Int32} {L : Nat → Nat → Int64} {R : Nat → Nat → Option Nat} {tl : am_H} {N s : Nat} {l : List (Nat × Nat)} {nt kd : Int32} (hN : 100 < N) (hl : l.length ≤ 20) (hF : isF 1 l) (h0 : 0 < l.length) (h13 : V 174 13 = .int kd) (h14 : V 174 14 = .int (nI s)) (hs : s ≤ 60) (h15 : V 174 15 = .int nt) (h18 : V 174 18 = .int (nI l.length)) (h19 : V 174 19 = .int nt) (h20 : V 174 20 = .int 0) (hS : rowS (I 188) l) (hT : rowT (I 192) l 0) (hV : ∀ j, j < l.length → ∃ n, n < 1000 ∧ I 189 j = nI n) (hb : sml (I 187)) (h56 : (∀ x, x ∈ l → x.1 ≠ 19) → ∀ x, x ∈ l → x.1 ≠ 5 ∧ x.1 ≠ 6) : ∀ (k K : Nat) (g : Nat → Int32), k ≤ l.length → k < K → rowC g l k → tcOk V I L R tl (fg_494_11 N K (.ref 174) (nI k + (-1)) (fx V (iup I 253 g) L R ++ tl)) := by
  intro k
  induction k with
  | zero =>
    intro K g hk hK hg
    obtain ⟨K, rfl⟩ : ∃ k, K = k + 1 := ⟨K - 1, by omega⟩
    have e : fg_494_11 N (K + 1) (.ref 174) (nI 0 + (-1)) (fx V (iup I 253 g) L R ++ tl) = fg_494_34 N N (.ref 174) (nI 0) (fx V (iup I 253 g) L R ++ tl) := by
      rw [fg_494_11]
      exact ev_t (by decide) rfl
    rw [e]
    exact r_494q (I := iup I 253 g) hN hl hF h0 h13 h14 hs h15 h18 h19 h20 hS hT hg hV hb h56 l.length 0 N (by omega) (by omega) (fun j x r hj _ => absurd hj (by omega))
  | succ k ih =>
    intro K g hk hK hg
    obtain ⟨K, rfl⟩ : ∃ k, K = k + 1 := ⟨K - 1, by omega⟩
    obtain ⟨x, r, m, hd, hm⟩ := isF_at hF (show k < l.length by omega)
    have q1 := ih K (upd g k (nI (sw own 1 (l.drop k)))) (by omega) (by omega) (fun j j1 j2 => by
      by_cases c : j = k
      · rw [c]; exact upd_eq
      · rw [upd_ne c]; exact hg j (by omega) j2)
    have e : fg_494_11 N (K + 1) (.ref 174) (nI (k + 1) + (-1)) (fx V (iup I 253 g) L R ++ tl) = fg_494_11 N K (.ref 174) (nI k + (-1)) (fx V (iup I 253 (upd g k (nI (sw own 1 (l.drop k))))) L R ++ tl) := by
      rw [fg_494_11, nI_m1]
      refine ev_f (nI_pos (by omega)) (ev_b (a := .ref 253) rfl (ev_i rfl ?_))
      refine ev_cI (r_496 (V := V) (I := iup I 253 g) (L := L) (R := R) (tl := tl) hN (by omega) hS hT hg hd hm) ?_
      exact ev_b (ev_s (f := g) (n := 61) (h1 := fx V (iup I 253 (upd g k (nI (sw own 1 (l.drop k))))) L R ++ tl) rfl (am_inb_n (by omega) (by omega)) rfl (by rw [nI_clamp (by omega)]; rfl)) rfl
    rw [e]
    exact q1
set_option maxRecDepth 100000 in
set_option maxHeartbeats 4000000 in
theorem r_494 {V : Nat → Nat → Value} {I : Nat → Nat → Int32} {L : Nat → Nat → Int64} {R : Nat → Nat → Option Nat} {tl : am_H} {N : Nat} {l : List (Nat × Nat)} {nt : Int32} (hN : 100 < N) (hl : l.length ≤ 20) (h0 : 0 < l.length) (hF : isF 1 l) (hS : rowS (I 186) l) (h13 : V 174 13 = .int 0) (h14 : V 174 14 = .int (nI l.length)) (h15 : V 174 15 = .int nt) (hb : sml (I 187)) (h56 : (∀ x, x ∈ l → x.1 ≠ 19) → ∀ x, x ∈ l → x.1 ≠ 5 ∧ x.1 ≠ 6) : tcOk V I L R tl (fm_494 N (.ref 174) (fx V I L R ++ tl)) := by
  obtain ⟨a', b', g, f1, f2, f3, f4⟩ := r_495 (V := V) (I := I) (L := L) (R := R) (tl := tl) hN (by omega) hF hS h13 h14 h15
  have k := r_494c (V := vup (vup (vup V 174 20 (.int 0)) 174 18 (.int (nI l.length))) 174 19 (.int nt)) (I := iup (iup (iup I 188 a') 189 b') 192 g) (L := L) (R := R) (tl := tl) (N := N) (s := l.length) (l := l) (nt := nt) (kd := 0) hN hl hF h0 (by rw [vup_v (by omega), vup_v (by omega), vup_v (by omega)]; exact h13) (by rw [vup_v (by omega), vup_v (by omega), vup_v (by omega)]; exact h14) (by omega) (by rw [vup_v (by omega), vup_v (by omega), vup_v (by omega)]; exact h15) (by rw [vup_v (by omega), vup_eq]) vup_eq (by rw [vup_v (by omega), vup_v (by omega), vup_eq]) (show rowS a' l from fun j x r hd => by
      have := drop_len hd
      obtain ⟨s1, s2⟩ := hS j x r hd
      exact ⟨by rw [f2 j (by omega)]; exact s1, s2⟩) (show rowT g l 0 from f4) (fun j hj => by
      obtain ⟨n, n1, n2⟩ := hb j
      exact ⟨n, n1, (f3 j hj).trans n2⟩) hb h56 l.length N (I 253) (Nat.le_refl _) (by omega) (fun j j1 j2 => by omega)
  have e1 : iup (iup (iup (iup I 188 a') 189 b') 192 g) 253 (I 253) = iup (iup (iup I 188 a') 189 b') 192 g := iup_self (I := iup (iup (iup I 188 a') 189 b') 192 g) (a := 253)
  rw [e1] at k
  obtain ⟨v, V', I', s', kd', nt', q1, q2, q3, q4, q5, q6, q7, q8⟩ := k
  refine ⟨v, V', I', s', kd', nt', ?_, q2, q3, q4, q5, fun j j1 j2 j3 j4 j5 j6 => by rw [q6 j j1 j2 j3 j4 j5 j6, vup_v j5, vup_v j4, vup_v j6], q7, q8⟩
  unfold fm_494 fg_494_0
  refine ev_i rfl (ev_cV f1 (ev_b (a := nI l.length) rfl ?_))
  rw [Int32.sub_eq_add_neg]
  exact q1
theorem rInv_v {V V' : Nat → Nat → Value} {L : Nat → Nat → Int64} (h : V' 174 80 = V 174 80) (hi : rInv V L) : rInv V' L := by
  unfold rInv at hi ⊢
  rw [h]
  exact hi
set_option maxRecDepth 100000 in
set_option maxHeartbeats 4000000 in
theorem rOk_1 {N z : Nat} (hN : 100 < N) (hz : 1 ≤ z) (hz9 : z ≤ 9) : rOk N 1 z (fun I => sml (I 187)) := by
  intro V I L R tl st hs hi hk hq
  obtain ⟨V1, I1, L1, P, st', hd, q⟩ := r_491t (V := V) (I := I) (L := L) (R := R) (tl := tl) (N := N) (z := z) (kd := nI 1) (by omega) hz hz9 hs hi hk (by decide) (by decide)
  obtain ⟨d0, d13, d14, d15, d88, d96, dI, dv0, dv1, d268, dY, dA, dB, dV⟩ := hd
  obtain ⟨f1, f2, f3⟩ := un_form z (by omega) hz 0 P (by omega) d0
  have hS : rowS (I1 186) (un 0 z P) := fun k x r hd => ⟨by
    have := wA_at _ (I 186) 0 k x r hd
    rw [Nat.zero_add] at this
    rw [dA]
    exact this, (f3 x (mem_drop hd)).1⟩
  have hb : sml (I1 187) := by
    rw [dB]
    exact sml_wB _ _ _ hq (fun x hx => by have := (f3 x hx).2; omega)
  obtain ⟨v, V2, I2, s, kd', nt', e1, e13, e14, es, e15, eV, eb, e234⟩ := r_494 (V := V1) (I := I1) (L := L1) (R := R) (tl := tl) (N := N) (l := un 0 z P) hN (by omega) (by omega) f1 hS d13 (by rw [f2]; exact d14) d15 hb (un_no z (by omega) hz 0 P (by omega) d0)
  have i234 : I2 234 = I 234 := e234.trans (dY 234 (by omega) (by omega) (by omega) (by omega) (by omega))
  have v96 : V2 174 96 = .long st' := (eV 96 (by omega) (by omega) (by omega) (by omega) (by omega) (by omega)).trans d96
  have v88 : V2 174 88 = .int (nI 0) := (eV 88 (by omega) (by omega) (by omega) (by omega) (by omega) (by omega)).trans d88
  have v80 : V2 174 80 = V1 174 80 := eV 80 (by omega) (by omega) (by omega) (by omega) (by omega) (by omega)
  have v0 : V2 174 0 = V 174 0 := (eV 0 (by omega) (by omega) (by omega) (by omega) (by omega) (by omega)).trans dv0
  have v1 : V2 174 1 = V 174 1 := (eV 1 (by omega) (by omega) (by omega) (by omega) (by omega) (by omega)).trans dv1
  by_cases c : v = 0
  · have hv : ∀ j, j ≠ 13 → j ≠ 14 → vup (vup (vup V2 174 13 (.int 1)) 174 14 (.int 0)) 174 14 (.int (nI (0 + 1))) 174 j = V2 174 j := fun j a b => by rw [vup_v b, vup_v b, vup_v a]
    refine ⟨vup (vup (vup V2 174 13 (.int 1)) 174 14 (.int 0)) 174 14 (.int (nI (0 + 1))), iup (iup I2 186 (upd (I2 186) 0 0)) 187 (upd (I2 187) 0 0), L1, 0 + 1, 1, nt', st', ?_, ?_, vup_eq, by omega, (hv 15 (by omega) (by omega)).trans e15, (hv 96 (by omega) (by omega)).trans v96, rInv_v ((hv 80 (by omega) (by omega)).trans v80) dI, ⟨0, (hv 88 (by omega) (by omega)).trans v88⟩, (hv 0 (by omega) (by omega)).trans v0, (hv 1 (by omega) (by omega)).trans v1, d268, i234, ?_⟩
    · rw [q]
      refine ev_f (fun h => h rfl) (ev_i rfl (ev_cI e1 (ev_f (fun h => h c) ?_)))
      refine ev_b (a := fx (vup V2 174 13 (.int 1)) I2 L1 R ++ tl) (ev_p rfl rfl rfl rfl) ?_
      refine ev_b (a := fx (vup (vup V2 174 13 (.int 1)) 174 14 (.int 0)) I2 L1 R ++ tl) (ev_p rfl rfl rfl rfl) ?_
      exact ev_i rfl (ev_cV (x_335 (V := vup (vup V2 174 13 (.int 1)) 174 14 (.int 0)) (s := 0) rfl (by omega) 0 0) rfl)
    · rw [vup_v (by omega), vup_v (by omega), vup_eq]
    · show sml (upd (I2 187) 0 (nI 0))
      exact sml_upd eb (by omega)
  · refine ⟨V2, I2, L1, s, kd', nt', st', ?_, e13, e14, es, e15, v96, rInv_v v80 dI, ⟨0, v88⟩, v0, v1, d268, i234, eb⟩
    rw [q]
    exact ev_f (fun h => h rfl) (ev_i rfl (ev_cI e1 (ev_t c rfl)))
theorem rOk1_1 {N z : Nat} (hN : 100 < N) (hz : 1 ≤ z) (hz9 : z ≤ 9) : rOk1 N 1 z := ⟨fun I => sml (I 187), rOk_1 hN hz hz9, fun I I' h hq => by
    show sml (I' 187)
    rw [h 187 (by omega) (by omega)]
    exact hq, fun I h => by
    show sml (I 187)
    rw [h 187 (by omega) (by omega) (by omega)]
    exact fun j => ⟨0, by omega, rfl⟩⟩
