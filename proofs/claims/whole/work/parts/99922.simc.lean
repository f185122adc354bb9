/-! ===== the class makes a tree simple ===== -/

set_option maxRecDepth 100000 in
set_option maxHeartbeats 1600000 in
theorem c_77i_121 {V : Nat → Nat → Value} {I : Nat → Nat → Int32} {L : Nat → Nat → Int64} {R : Nat → Nat → Option Nat} {tl : am_H} {N k m a : Nat} {l r : List (Nat × Nat)} {x : Nat × Nat} {g : Nat → Int32} {rc : Value → Value → Int32 → am_H → Option am_O} (h7 : V 121 7 = .int (nI l.length)) (hl : l.length ≤ 60) (hd : l.drop k = x :: r) (hF : isF (m + arN x.1) r) (hg : ∀ j, k < j → j < l.length → g j = nI (enL l j)) : ∀ (q p K : Nat), p + q = arN x.1 → q < K → fg_77_39 N rc K (.ref 121) (.ref a) (nI k) (nI (k + 1 + tk p r)) (nI q) (fx V (iup I 122 g) L R ++ tl) = rc (.ref 121) (.ref a) (nI k + (-1)) (fx V (iup I 122 (upd g k (nI (enL l k)))) L R ++ tl) := by
  have hlen := drop_len hd
  have ha := ar_le x.1
  intro q
  induction q with
  | zero =>
    intro p K hp hK
    obtain ⟨K, rfl⟩ : ∃ k, K = k + 1 := ⟨K - 1, by omega⟩
    have e : k + 1 + tk p r = enL l k := by
      unfold enL
      rw [hd, show (1 : Nat) = 0 + 1 from rfl, tk_c, show 0 + arN x.1 = p by omega]
      omega
    rw [fg_77_39, e]
    exact ev_t (by decide) (ev_b (a := Value.ref 122) rfl (ev_b (a := fx V (iup I 122 (upd g k (nI (enL l k)))) L R ++ tl) (ev_s (f := g) (n := 60) rfl (am_inb_n (by omega) (by omega)) rfl (by rw [nI_clamp (by omega)]; rfl)) rfl))
  | succ q ih =>
    intro p K hp hK
    obtain ⟨K, rfl⟩ : ∃ k, K = k + 1 := ⟨K - 1, by omega⟩
    have lt := part_lt hd hF (show p < arN x.1 by omega)
    have e : g (k + 1 + tk p r) = nI (k + 1 + tk (p + 1) r) := by
      rw [hg _ (by omega) lt]
      unfold enL
      rw [drop_s hd, tk_add r p 1]
      congr 1
      omega
    rw [fg_77_39]
    refine ev_f (nI_nle (by omega) (by omega)) (ev_b (a := nI l.length) (by show am_vI (some (V 121 7)) = _; rw [h7]; rfl) (ev_f (nI_ge lt (by omega)) (ev_b (a := Value.ref 122) rfl (ev_b (a := nI (k + 1 + tk (p + 1) r)) ((ev_a (f := g) (n := 60) rfl (am_inb_n (by omega) (by omega))).trans (by rw [nI_clamp (by omega), e])) ?_))))
    unfold fg_77_65
    rw [nI_m1]
    exact ih (p + 1) K (by omega) (by omega)
set_option maxRecDepth 100000 in
set_option maxHeartbeats 1600000 in
theorem c_77o_121 {V : Nat → Nat → Value} {I : Nat → Nat → Int32} {L : Nat → Nat → Int64} {R : Nat → Nat → Option Nat} {tl : am_H} {N a it kd ln m0 : Nat} {f : Nat → Int32} {l : List (Nat × Nat)} (hN : 100 < N) (hk0 : kd ≠ 2) (hp : prA V I tl a it kd ln l.length m0 f) (ha : a ≠ 121) (hit : it ≠ 122) (hm0 : l.length * wdN kd ≤ m0) (hm1 : m0 ≤ 1000) (h7 : V 121 7 = .int (nI l.length)) (hl : l.length ≤ 60) (hS : ∀ k x r, l.drop k = x :: r → f (k * 2) = nI x.1 ∧ x.1 ≤ 20) (hF : isF 1 l) : ∀ (k K : Nat) (g : Nat → Int32), k ≤ l.length → k < K → (∀ j, k ≤ j → j < l.length → g j = nI (enL l j)) → ∃ g', (∀ j, j < l.length → g' j = nI (enL l j)) ∧ fg_77_20 N K (.ref 121) (.ref a) (nI k + (-1)) (fx V (iup I 122 g) L R ++ tl) = some (.inl (none, fx V (iup I 122 g') L R ++ tl)) := by
  have w2 : wdN kd = 2 := if_neg hk0
  intro k
  induction k with
  | zero =>
    intro K g hk hK hg
    obtain ⟨K, rfl⟩ : ∃ k, K = k + 1 := ⟨K - 1, by omega⟩
    refine ⟨g, fun j hj => hg j (by omega) hj, ?_⟩
    rw [fg_77_20]
    exact ev_t (by decide) rfl
  | succ k ih =>
    intro K g hk hK hg
    obtain ⟨K, rfl⟩ : ∃ k, K = k + 1 := ⟨K - 1, by omega⟩
    obtain ⟨x, r, m, hd, hm⟩ := isF_at hF (show k < l.length by omega)
    obtain ⟨s1, s2⟩ := hS k x r hd
    have har := ar_le x.1
    have hpg := hp V (iup I 122 g) L R (fun j => rfl) (iup_na hit)
    have g0 := c_54 (k := k) (w := 0) hpg hm0 hm1 hl (by omega) (by omega)
    rw [w2, Nat.add_zero, s1] at g0
    obtain ⟨x1, x2, x3, x4, x5, x6, p1, p2⟩ := hpg
    have e := c_77i_121 (V := V) (I := I) (L := L) (R := R) (tl := tl) (N := N) (a := a) (rc := fg_77_20 N K) h7 hl hd hm (fun j h1 h2 => hg j (by omega) h2) (arN x.1) 0 N (by omega) (by omega)
    rw [tk_0, Nat.add_zero] at e
    obtain ⟨g', h1, h2⟩ := ih K (upd g k (nI (enL l k))) (by omega) (by omega) (fun j j1 j2 => by
      by_cases c : j = k
      · rw [c]; exact upd_eq
      · rw [upd_ne c]; exact hg j (by omega) j2)
    refine ⟨g', h1, ?_⟩
    rw [fg_77_20, nI_m1]
    refine ev_f (nI_pos (by omega)) (ev_i (ev_ok p1) (ev_cI g0 (ev_cI (pe_14 _ _) ?_)))
    rw [show pv_14 (nI x.1) = nI (arN x.1) from ar14 x.1 (by omega), nI_1]
    exact e.trans h2
set_option maxRecDepth 100000 in
set_option maxHeartbeats 1600000 in
theorem c_77_121 {V : Nat → Nat → Value} {I : Nat → Nat → Int32} {L : Nat → Nat → Int64} {R : Nat → Nat → Option Nat} {tl : am_H} {N a it kd ln m0 : Nat} {f : Nat → Int32} {l : List (Nat × Nat)} (hN : 100 < N) (hk0 : kd ≠ 2) (hp : prA V I tl a it kd ln l.length m0 f) (ha : a ≠ 121) (hit : it ≠ 122) (hm0 : l.length * wdN kd ≤ m0) (hm1 : m0 ≤ 1000) (hl : l.length ≤ 60) (hS : ∀ k x r, l.drop k = x :: r → f (k * 2) = nI x.1 ∧ x.1 ≤ 20) (hF : isF 1 l) : ∃ g', (∀ j, j < l.length → g' j = nI (enL l j)) ∧ fm_77 N (.ref 121) (.ref a) (fx V I L R ++ tl) = some (.inl (none, fx (vup V 121 7 (.int (nI l.length))) (iup I 122 g') L R ++ tl)) := by
  obtain ⟨x1, x2, x3, x4, x5, x6, p1, p2⟩ := hp V I L R (fun j => rfl) rfl
  obtain ⟨g', h1, h2⟩ := c_77o_121 (V := vup V 121 7 (.int (nI l.length))) (I := I) (L := L) (R := R) (tl := tl) (N := N) hN hk0 (fun W J L' R' hW hJ => hp W J L' R' (fun j => (hW j).trans (vup_na ha)) hJ) ha hit hm0 hm1 vup_eq hl hS hF l.length N (I 122) (Nat.le_refl _) (by omega) (fun j j1 j2 => by omega)
  refine ⟨g', h1, ?_⟩
  rw [iup_self] at h2
  unfold fm_77 fg_77_0
  refine ev_b (ev_gI p1 rfl rfl) (ev_cI (pe_38 _ _ _) ?_)
  rw [show pv_38 (nI l.length) 60 = nI l.length from if_neg (fun e => nI_nlt (a := 60) hl (by omega) e)]
  refine ev_b qp_121_7 (ev_b (a := nI l.length) rfl ?_)
  rw [Int32.sub_eq_add_neg]
  exact h2

theorem sl_S {F : Nat → Int32} {P : xT} (ho : okP P) (hF : tO F P) : ∀ k x r, (sl P).drop k = x :: r → F (k * 2) = nI x.1 ∧ x.1 ≤ 20 := by
  intro k x r hd
  have hk : k < P.length := by
    have := drop_len hd
    rw [sl_len] at this
    omega
  rw [sl_at hk] at hd
  injection hd with h1 h2
  rw [← h1]
  exact ⟨(hF k _ (xS_at hk)).1, (nd_at ho hk).1⟩
theorem fsW_r {P : xT} {k m w : Nat} : fsW P k (m + 1) w = (match ru P k w with | some c => some (w, c) | none => fsW P k m (w + 1)) := rfl
theorem fsK_r {P : xT} {k : Nat} : fsK P (k + 1) = (match fsW P k 9 0 with | some c => some (k, c) | none => fsK P k) := rfl
theorem rcI_ne {P : xT} {k : Nat} (hl : P.length ≤ 60) {c : Nat × Int32} (h : ruR P k c) : ¬ rcI (some c) = -1 := by
  rcases h with ⟨c7, ⟨c0, ct, c2⟩ | ⟨rfl, s20, s9⟩ | ⟨q, rfl, d1, d2, d3, d4, d5, d6⟩⟩
  · have hr : rcI (some c) = -2 := by unfold rcI; dsimp only; rw [if_pos c0]
    rw [hr]
    decide
  · decide
  · rw [rcI_n]
    exact nI_nm1 (by omega)
/-- how many rows there are, and what they say -/
def rwZ (V : Nat → Nat → Value) (I : Nat → Nat → Int32) (l : List (Nat × Nat)) : Prop := V 118 2 = .int (nI l.length) ∧ ∀ i x, l[i]? = some x → I 119 i = nI x.1 ∧ I 120 i = nI x.2
theorem rwZ_s {V : Nat → Nat → Value} {I J : Nat → Nat → Int32} {l : List (Nat × Nat)} {k w : Nat} (h : rwZ V I l) (h1 : J 119 = upd (I 119) l.length (nI k)) (h2 : J 120 = upd (I 120) l.length (nI w)) (W : Nat → Nat → Value) (hW : W 118 2 = .int (nI (l.length + 1))) : rwZ W J (l ++ [(k, w)]) := by
  refine ⟨by rw [List.length_append]; exact hW, fun i x hx => ?_⟩
  rw [h1, h2]
  by_cases c : i < l.length
  · rw [List.getElem?_append_left c] at hx
    rw [upd_ne (by omega), upd_ne (by omega)]
    exact h.2 i x hx
  · rw [List.getElem?_append_right (by omega)] at hx
    by_cases d : i = l.length
    · subst d
      rw [Nat.sub_self, List.getElem?_cons_zero] at hx
      have e := Option.some.inj hx
      subst e
      rw [upd_eq, upd_eq]
      exact ⟨rfl, rfl⟩
    · rw [show i - l.length = (i - l.length - 1) + 1 by omega, List.getElem?_cons_succ] at hx
      exact absurd hx (by simp)
/-- what of the rows is kept: none where they aren't wanted -/
def rwY (kp : Nat) (V W : Nat → Nat → Value) (I J : Nat → Nat → Int32) (l l2 : List (Nat × Nat)) : Prop := (kp = 0 → frU2 V W I J) ∧ (kp = 1 → rwZ V I l → rwZ W J l2)
set_option maxRecDepth 100000 in
set_option maxHeartbeats 4000000 in
theorem c_270i_167 {L : Nat → Nat → Int64} {R : Nat → Nat → Option Nat} {tl : am_H} {N kp k : Nat} {P : xT} {rc : Value → Int32 → Int32 → am_H → Option am_O} (hN : 100 < N) (ho : okP P) (hl : P.length ≤ 60) (hk : k < P.length) (hkp : kp ≤ 1) : ∀ (m w K : Nat) (V : Nat → Nat → Value) (I : Nat → Nat → Int32), w + m = 9 → m < K → wt V → hold V I 167 0 0 P → V 118 5 = .ref 167 → V 121 7 = .int (nI P.length) → (∀ j, j < P.length → I 122 j = nI (xE P j)) → (fsW P k m w = none → ∃ W, fg_270_27 N rc K (.ref 118) (nI kp) (nI k) (nI w) (fx V I L R ++ tl) = rc (.ref 118) (nI kp) (nI k + (-1)) (fx W I L R ++ tl) ∧ (∀ a j, ¬ (a = 118 ∧ j = 6) → W a j = V a j) ∧ (wt V → wt W)) ∧ (∀ w' c l, fsW P k m w = some (w', c) → (kp = 1 → V 118 2 = .int (nI l.length) ∧ l.length < 60) → ∃ W J, fg_270_27 N rc K (.ref 118) (nI kp) (nI k) (nI w) (fx V I L R ++ tl) = some (.inl (some (.int 1), fx W J L R ++ tl)) ∧ hold W J 167 0 0 (rp P k (rMid P k c)) ∧ frZ 167 V W I J ∧ rwY kp V W I J l (l ++ [(k, w')])) := by
  intro m
  induction m with
  | zero =>
    intro w K V I hm hK hw hh h5 h7 hg
    obtain ⟨K, rfl⟩ : ∃ k, K = k + 1 := ⟨K - 1, by omega⟩
    refine ⟨fun _ => ⟨V, ?_, fun _ _ _ => rfl, id⟩, fun w' c l e => absurd e (by rw [fsW]; simp)⟩
    apply hd_270_27
    exact ev_t (nI_le (a := 9) (by omega) (by omega)) rfl
  | succ m ih =>
    intro w K V I hm hK hw hh h5 h7 hg
    obtain ⟨K, rfl⟩ : ∃ k, K = k + 1 := ⟨K - 1, by omega⟩
    obtain ⟨y0, hy⟩ := hw.1 118 6 (by decide)
    obtain ⟨y, e1, e2⟩ := c_271 (k := k) (w := w) hN ho (rcH_167 (L := L) (R := R) (tl := tl) hw hh hl h5 h7 hg) hy hk (by omega)
    have hw2 : wt (vup V 118 6 (.int y)) := wt_i hw (by decide)
    have hh2 : hold (vup V 118 6 (.int y)) I 167 0 0 P := hh
    rw [fsW_r]
    cases er : ru P k w with
    | none =>
      rw [er] at e1
      have e1 : fm_271 N (.ref 118) (nI k) (nI w) (fx V I L R ++ tl) = some (.inl (some (.int (-1)), fx (vup V 118 6 (.int y)) I L R ++ tl)) := e1
      obtain ⟨g1, g2⟩ := ih (w + 1) K (vup V 118 6 (.int y)) I (by omega) (by omega) hw2 hh2 h5 h7 hg
      have st : ∀ o, fg_270_27 N rc K (.ref 118) (nI kp) (nI k) (nI (w + 1)) (fx (vup V 118 6 (.int y)) I L R ++ tl) = o → fg_270_27 N rc (K + 1) (.ref 118) (nI kp) (nI k) (nI w) (fx V I L R ++ tl) = o := fun o h => by
        apply hd_270_27
        rw [nI_1]
        exact ev_f (nI_ge (b := 9) (by omega) (by omega)) (ev_i rfl (ev_cI e1 (ev_t rfl h)))
      refine ⟨fun h => ?_, fun w' c l h hl2 => ?_⟩
      · obtain ⟨W, a1, a2, a3⟩ := g1 h
        exact ⟨W, st _ a1, fun a j n => (a2 a j n).trans (vup_o n), fun _ => a3 hw2⟩
      · obtain ⟨W, J, a1, a2, a3, a4⟩ := g2 w' c l h hl2
        refine ⟨W, J, st _ a1, a2, frZ_t ⟨fun a j _ _ n _ => vup_o (fun e => n e.1), fun _ _ _ _ _ _ => rfl, fun _ => hw2⟩ a3, a4⟩
    | some c =>
      rw [er] at e1
      refine ⟨fun h => absurd h (by simp), fun w' c' l h hl2 => ?_⟩
      injection h with h
      injection h with h1 h2
      subst h1
      subst h2
      have hR := ru_R ho hk er
      have hne := rcI_ne hl hR
      obtain ⟨W, J, a1, a2, F1, a4, a5⟩ := c_282_167 (L := L) (R := R) (tl := tl) hN ho hw2 hl hh2 h5 h7 hg hk hR (fun e => congrArg Value.int (e2 c.2 (by rw [er]; exact congrArg some (Prod.ext e rfl))))
      have b2 : W 118 2 = V 118 2 := F1 118 2 (by decide) (by decide)
      have w2 := a5 hw2
      have st : ∀ o, (if nI kp = 0 then (fg_270_103 N (fx W J L R ++ tl)) else ((am_vI (am_pG 1282 (.ref 118) (fx W J L R ++ tl))).bind fun v12 => ((am_vR (am_pG 1280 (.ref 118) (fx W J L R ++ tl))).bind fun v14 => ((am_pLen v14 (fx W J L R ++ tl)).bind fun v16 => (if v16 ≤ v12 then (fg_270_103 N (fx W J L R ++ tl)) else ((am_vR (am_pG 1280 (.ref 118) (fx W J L R ++ tl))).bind fun v19 => ((am_vI (am_pG 1282 (.ref 118) (fx W J L R ++ tl))).bind fun v21 => ((am_pS 0 v19 v21 (nI k) (fx W J L R ++ tl)).bind fun h23 => ((am_vR (am_pG 1281 (.ref 118) h23)).bind fun v25 => ((am_vI (am_pG 1282 (.ref 118) h23)).bind fun v27 => ((am_pS 0 v25 v27 (nI w) h23).bind fun h29 => ((am_vI (am_pG 1282 (.ref 118) h29)).bind fun v31 => ((am_pP 1282 (.ref 118) (.int (v31 + 1)) h29).bind fun h33 => (fg_270_103 N h33)))))))))))))) = o → fg_270_27 N rc (K + 1) (.ref 118) (nI kp) (nI k) (nI w) (fx V I L R ++ tl) = o := fun o h => by
        apply hd_270_27
        exact ev_f (nI_ge (b := 9) (by omega) (by omega)) (ev_i rfl (ev_cI e1 (ev_f hne (ev_i rfl (ev_cV a1 h)))))
      have fk : frZ 167 V W I J := ⟨fun a j p q r s => (F1 a j p q).trans (vup_o (fun e => r e.1)), fun y p q r s t => a4 y p q, fun _ => w2⟩
      rcases (by omega : kp = 0 ∨ kp = 1) with rfl | rfl
      · exact ⟨W, J, st _ (ev_t rfl rfl), a2, fk, fun _ => ⟨b2, a4 119 (by decide) (by decide), a4 120 (by decide) (by decide)⟩, fun e => absurd e (by omega)⟩
      · obtain ⟨hc1, hc2⟩ := hl2 rfl
        have hc3 : W 118 2 = .int (nI l.length) := b2.trans hc1
        refine ⟨vup W 118 2 (.int (nI (l.length + 1))), iup (iup J 119 (upd (J 119) l.length (nI k))) 120 (upd (J 120) l.length (nI w)), st _ ?_, ?_, ?_, fun e => absurd e (by omega), fun _ hr => rwZ_s (I := J) (V := W) ⟨hc3, fun i x hx => ?_⟩ rfl rfl _ rfl⟩
        · (repeat (first | ((with_reducible apply ev_i); first | (with_reducible assumption) | (with_reducible exact qk_118) | exact bI_fit _ | exact rfl) | ((with_reducible apply ev_vR); first | (with_reducible assumption) | (with_reducible exact rdR qr_118_0) | (with_reducible exact rdR qr_118_1) | ((with_reducible apply rVR qv_118_2); (first | (with_reducible assumption) | exact rfl | exact (F1 _ _ (by decide)).trans (by first | (with_reducible assumption) | exact rfl) | exact (F2 _ _ (by decide)).trans (by first | (with_reducible assumption) | exact rfl) | exact (F3 _ _ (by decide)).trans (by first | (with_reducible assumption) | exact rfl))) | (with_reducible exact rdR qr_118_3) | (with_reducible exact rdR qr_118_4) | ((with_reducible apply rVR qv_118_5); (first | (with_reducible assumption) | exact rfl | exact (F1 _ _ (by decide)).trans (by first | (with_reducible assumption) | exact rfl) | exact (F2 _ _ (by decide)).trans (by first | (with_reducible assumption) | exact rfl) | exact (F3 _ _ (by decide)).trans (by first | (with_reducible assumption) | exact rfl))) | ((with_reducible apply rVR qv_118_6); (first | (with_reducible assumption) | exact rfl | exact (F1 _ _ (by decide)).trans (by first | (with_reducible assumption) | exact rfl) | exact (F2 _ _ (by decide)).trans (by first | (with_reducible assumption) | exact rfl) | exact (F3 _ _ (by decide)).trans (by first | (with_reducible assumption) | exact rfl)))) | ((with_reducible apply ev_vI); first | (with_reducible assumption) | ((with_reducible apply rVI qv_118_2); (first | (with_reducible assumption) | exact rfl | exact (F1 _ _ (by decide)).trans (by first | (with_reducible assumption) | exact rfl) | exact (F2 _ _ (by decide)).trans (by first | (with_reducible assumption) | exact rfl) | exact (F3 _ _ (by decide)).trans (by first | (with_reducible assumption) | exact rfl))) | ((with_reducible apply rVI qv_118_5); (first | (with_reducible assumption) | exact rfl | exact (F1 _ _ (by decide)).trans (by first | (with_reducible assumption) | exact rfl) | exact (F2 _ _ (by decide)).trans (by first | (with_reducible assumption) | exact rfl) | exact (F3 _ _ (by decide)).trans (by first | (with_reducible assumption) | exact rfl))) | ((with_reducible apply rVI qv_118_6); (first | (with_reducible assumption) | exact rfl | exact (F1 _ _ (by decide)).trans (by first | (with_reducible assumption) | exact rfl) | exact (F2 _ _ (by decide)).trans (by first | (with_reducible assumption) | exact rfl) | exact (F3 _ _ (by decide)).trans (by first | (with_reducible assumption) | exact rfl)))) | ((with_reducible apply ev_pA); first | (with_reducible assumption) | ((with_reducible apply qa_119) <;> (first | (with_reducible assumption) | omega | exact rfl)) | ((with_reducible apply qa_120) <;> (first | (with_reducible assumption) | omega | exact rfl))) | ((with_reducible apply ev_pS); first | (with_reducible assumption) | ((with_reducible apply qs_119) <;> (first | (with_reducible assumption) | omega | exact rfl)) | ((with_reducible apply qs_120) <;> (first | (with_reducible assumption) | omega | exact rfl))) | ((with_reducible apply ev_pP); first | (with_reducible assumption) | (with_reducible exact qp_118_2) | (with_reducible exact qp_118_5)) | ((with_reducible apply ev_len); first | (with_reducible assumption) | (with_reducible exact ql_119) | (with_reducible exact ql_120)) | ((with_reducible apply ev_vL); first | (with_reducible assumption) | ((with_reducible apply rVL qv_118_2); (first | (with_reducible assumption) | exact rfl | exact (F1 _ _ (by decide)).trans (by first | (with_reducible assumption) | exact rfl) | exact (F2 _ _ (by decide)).trans (by first | (with_reducible assumption) | exact rfl) | exact (F3 _ _ (by decide)).trans (by first | (with_reducible assumption) | exact rfl))) | ((with_reducible apply rVL qv_118_5); (first | (with_reducible assumption) | exact rfl | exact (F1 _ _ (by decide)).trans (by first | (with_reducible assumption) | exact rfl) | exact (F2 _ _ (by decide)).trans (by first | (with_reducible assumption) | exact rfl) | exact (F3 _ _ (by decide)).trans (by first | (with_reducible assumption) | exact rfl))) | ((with_reducible apply rVL qv_118_6); (first | (with_reducible assumption) | exact rfl | exact (F1 _ _ (by decide)).trans (by first | (with_reducible assumption) | exact rfl) | exact (F2 _ _ (by decide)).trans (by first | (with_reducible assumption) | exact rfl) | exact (F3 _ _ (by decide)).trans (by first | (with_reducible assumption) | exact rfl)))) | ((with_reducible apply ev_cI); first | (with_reducible assumption)) | ((with_reducible apply ev_cV); first | (with_reducible assumption)) | ((with_reducible apply ev_cL); first | (with_reducible assumption)) | ((with_reducible apply ev_cR); (first | (with_reducible assumption)); exact rfl) | ((with_reducible apply ev_t); (first | (with_reducible assumption) | decide | (simp (disch := omega) only [i_0, i_1, i_2, i_3, i_4, i_5, i_6, i_7, i_8, i_9, i_10, i_11, i_12, i_13, i_14, i_15, i_16, i_17, i_18, i_19, i_20, i_21, i_25, i_40, i_60, i_61, i_99, i_100, i_120, i_124, i_128, i_240, i_400, nI_add, nI_mm, bI_t, bI_f, nI_eq, nI_leI, nI_ltI, nI_sub, Classical.not_not] <;> omega))) | ((with_reducible apply ev_f); (first | (with_reducible assumption) | decide | (simp (disch := omega) only [i_0, i_1, i_2, i_3, i_4, i_5, i_6, i_7, i_8, i_9, i_10, i_11, i_12, i_13, i_14, i_15, i_16, i_17, i_18, i_19, i_20, i_21, i_25, i_40, i_60, i_61, i_99, i_100, i_120, i_124, i_128, i_240, i_400, nI_add, nI_mm, bI_t, bI_f, nI_eq, nI_leI, nI_ltI, nI_sub, Classical.not_not] <;> omega))) | (with_reducible apply hd_270_103) | (simp only [nI_add, nI_1, nI_p2, nI_p3, nI_p4, nI_p5, nI_p6, nI_p7, nI_p10, nI_t2, nI_t5, nI_2t, nI_5t, nI_4t, nI_6t, nI_21t, nI_mm])))
          all_goals exact rfl
        · exact a2
        · exact frZ_t fk ⟨fun a j p q r s => vup_o (fun e => r e.1), fun y p q r s t => by rw [iup_na t, iup_na s], fun w => wt_i w (by decide)⟩
        · rw [a4 119 (by decide) (by decide), a4 120 (by decide) (by decide)]
          exact hr.2 i x hx
set_option maxRecDepth 100000 in
set_option maxHeartbeats 4000000 in
theorem c_270o_167 {L : Nat → Nat → Int64} {R : Nat → Nat → Option Nat} {tl : am_H} {N kp : Nat} {P : xT} (hN : 100 < N) (ho : okP P) (hl : P.length ≤ 60) (hkp : kp ≤ 1) : ∀ (k K : Nat) (V : Nat → Nat → Value) (I : Nat → Nat → Int32), k ≤ P.length → k < K → wt V → hold V I 167 0 0 P → V 118 5 = .ref 167 → V 121 7 = .int (nI P.length) → (∀ j, j < P.length → I 122 j = nI (xE P j)) → (fsK P k = none → ∃ W, fg_270_20 N K (.ref 118) (nI kp) (nI k + (-1)) (fx V I L R ++ tl) = some (.inl (some (.int 0), fx W I L R ++ tl)) ∧ (∀ a j, ¬ (a = 118 ∧ j = 6) → W a j = V a j) ∧ (wt V → wt W)) ∧ (∀ k' w' c l, fsK P k = some (k', w', c) → (kp = 1 → V 118 2 = .int (nI l.length) ∧ l.length < 60) → ∃ W J, fg_270_20 N K (.ref 118) (nI kp) (nI k + (-1)) (fx V I L R ++ tl) = some (.inl (some (.int 1), fx W J L R ++ tl)) ∧ hold W J 167 0 0 (rp P k' (rMid P k' c)) ∧ frZ 167 V W I J ∧ rwY kp V W I J l (l ++ [(k', w')])) := by
  intro k
  induction k with
  | zero =>
    intro K V I hk hK hw hh h5 h7 hg
    obtain ⟨K, rfl⟩ : ∃ k, K = k + 1 := ⟨K - 1, by omega⟩
    refine ⟨fun _ => ⟨V, ?_, fun _ _ _ => rfl, id⟩, fun k' w' c l e => absurd e (by rw [fsK]; simp)⟩
    apply hd_270_20
    exact ev_t (by decide) rfl
  | succ k ih =>
    intro K V I hk hK hw hh h5 h7 hg
    obtain ⟨K, rfl⟩ : ∃ k, K = k + 1 := ⟨K - 1, by omega⟩
    obtain ⟨g1, g2⟩ := c_270i_167 (L := L) (R := R) (tl := tl) (rc := fg_270_20 N K) hN ho hl (show k < P.length by omega) hkp 9 0 N V I (by omega) (by omega) hw hh h5 h7 hg
    have st : ∀ o, fg_270_27 N (fg_270_20 N K) N (.ref 118) (nI kp) (nI k) 0 (fx V I L R ++ tl) = o → fg_270_20 N (K + 1) (.ref 118) (nI kp) (nI (k + 1) + (-1)) (fx V I L R ++ tl) = o := fun o h => by
      apply hd_270_20
      rw [nI_m1]
      exact ev_f (nI_pos (by omega)) h
    rw [fsK_r]
    cases er : fsW P k 9 0 with
    | none =>
      obtain ⟨W1, a1, a2, a3⟩ := g1 er
      have hh1 : hold W1 I 167 0 0 P := ⟨(a2 _ _ (by decide)).trans hh.1, (a2 _ _ (by decide)).trans hh.2.1, (a2 _ _ (by decide)).trans hh.2.2.1, (a2 _ _ (by decide)).trans hh.2.2.2.1, hh.2.2.2.2⟩
      obtain ⟨i1, i2⟩ := ih K W1 I (by omega) (by omega) (a3 hw) hh1 ((a2 _ _ (by decide)).trans h5) ((a2 _ _ (by decide)).trans h7) hg
      refine ⟨fun h => ?_, fun k' w' c l h hl2 => ?_⟩
      · obtain ⟨W, b1, b2, b3⟩ := i1 h
        exact ⟨W, st _ (a1.trans b1), fun a j n => (b2 a j n).trans (a2 a j n), fun w => b3 (a3 w)⟩
      · have e2 : W1 118 2 = V 118 2 := a2 118 2 (by decide)
        obtain ⟨W, J, b1, b2, b3, b4⟩ := i2 k' w' c l h (by rw [e2]; exact hl2)
        refine ⟨W, J, st _ (a1.trans b1), b2, frZ_t ⟨fun a j p q r s => a2 a j (fun e => r e.1), fun _ _ _ _ _ _ => rfl, a3⟩ b3, fun e => ?_, fun e hr => b4.2 e ⟨e2.trans hr.1, hr.2⟩⟩
        obtain ⟨c1, c2⟩ := b4.1 e
        exact ⟨c1.trans e2, c2⟩
    | some d =>
      obtain ⟨w1, c1⟩ := d
      refine ⟨fun h => absurd h (by simp), fun k' w' c l h hl2 => ?_⟩
      injection h with h
      injection h with h1 h2
      injection h2 with h2 h3
      subst h1
      subst h2
      subst h3
      obtain ⟨W, J, b1, b2⟩ := g2 w1 c1 l er hl2
      exact ⟨W, J, st _ b1, b2⟩
set_option maxRecDepth 100000 in
set_option maxHeartbeats 4000000 in
theorem c_270_167 {V : Nat → Nat → Value} {I : Nat → Nat → Int32} {L : Nat → Nat → Int64} {R : Nat → Nat → Option Nat} {tl : am_H} {N kp : Nat} {P : xT} (hN : 100 < N) (ho : okP P) (hl : P.length ≤ 60) (hkp : kp ≤ 1) (hw : wt V) (hh : hold V I 167 0 0 P) : (fsK P P.length = none → ∃ W J, fm_270 N (.ref 118) (.ref 167) (nI kp) (fx V I L R ++ tl) = some (.inl (some (.int 0), fx W J L R ++ tl)) ∧ hold W J 167 0 0 P ∧ frZ 167 V W I J ∧ frU2 V W I J) ∧ (∀ k' w' c l, fsK P P.length = some (k', w', c) → (kp = 1 → V 118 2 = .int (nI l.length) ∧ l.length < 60) → ∃ W J, fm_270 N (.ref 118) (.ref 167) (nI kp) (fx V I L R ++ tl) = some (.inl (some (.int 1), fx W J L R ++ tl)) ∧ hold W J 167 0 0 (rp P k' (rMid P k' c)) ∧ frZ 167 V W I J ∧ rwY kp V W I J l (l ++ [(k', w')])) := by
  have w1 : wt (vup V 118 5 (.ref 167)) := wt_o (by decide) (by decide) hw
  have sp : srcP (vup V 118 5 (.ref 167)) I tl 167 168 0 0 P := srcP_167 (L := L) (R := R) w1 hh (by omega) (by omega) hl
  obtain ⟨m, f, p1, p2, p3, p4, -⟩ := sp
  have hF : isF 1 (sl P) := okF_F (sl P) [(0, 1, 0)] ho.1
  rw [← sl_len (P := P)] at p1
  obtain ⟨g, hg, e1⟩ := c_77_121 (L := L) (R := R) hN (by omega) p1 (by decide) (by decide) (by rw [sl_len]; exact p3) p4 (by rw [sl_len]; exact hl) (sl_S ho p2) hF
  rw [sl_len] at hg e1
  have w2 : wt (vup (vup V 118 5 (.ref 167)) 121 7 (.int (nI P.length))) := wt_i w1 (by decide)
  have hh2 : hold (vup (vup V 118 5 (.ref 167)) 121 7 (.int (nI P.length))) (iup I 122 g) 167 0 0 P := hh
  have f2 : frZ 167 V (vup (vup V 118 5 (.ref 167)) 121 7 (.int (nI P.length))) I (iup I 122 g) := ⟨fun a j p q r s => by rw [vup_o s, vup_o (fun e => r e.1)], fun y p q r s t => iup_na r, fun _ => w2⟩
  have hp := okP_pos ho
  obtain ⟨g1, g2⟩ := c_270o_167 (L := L) (R := R) (tl := tl) hN ho hl hkp P.length N _ _ (Nat.le_refl _) (by omega) w2 hh2 rfl rfl (fun j hj => hg j hj)
  have hA3 : vup (vup V 118 5 (.ref 167)) 121 7 (.int (nI P.length)) 167 3 = .int (nI P.length) := hh.2.2.1
  have st : ∀ o, fg_270_20 N N (.ref 118) (nI kp) (nI P.length + (-1)) (fx (vup (vup V 118 5 (.ref 167)) 121 7 (.int (nI P.length))) (iup I 122 g) L R ++ tl) = o → fm_270 N (.ref 118) (.ref 167) (nI kp) (fx V I L R ++ tl) = o := fun o h => by
    apply hm_270
    apply hd_270_0
    refine ev_b qp_118_5 (ev_b (rdR rfl) (ev_i rfl (ev_cV e1 (ev_b (rdI hA3) ?_))))
    rw [show nI P.length - 1 = nI P.length + (-1) from Int32.sub_eq_add_neg ..]
    exact h
  refine ⟨fun h => ?_, fun k' w' c l h hl2 => ?_⟩
  · obtain ⟨W, b1, b2, b3⟩ := g1 h
    refine ⟨W, _, st _ b1, ?_, frZ_t f2 ⟨fun a j p q r s => b2 a j (fun e => r e.1), fun _ _ _ _ _ _ => rfl, b3⟩, (b2 118 2 (by decide)).trans rfl, rfl, rfl⟩
    exact ⟨(b2 _ _ (by decide)).trans hh.1, (b2 _ _ (by decide)).trans hh.2.1, (b2 _ _ (by decide)).trans hh.2.2.1, (b2 _ _ (by decide)).trans hh.2.2.2.1, hh.2.2.2.2⟩
  · obtain ⟨W, J, b1, b2, b3, b4⟩ := g2 k' w' c l h hl2
    exact ⟨W, J, st _ b1, b2, frZ_t f2 b3, fun e => b4.1 e, fun e hr => b4.2 e hr⟩
set_option maxRecDepth 100000 in
set_option maxHeartbeats 4000000 in
theorem c_269l_167 {L : Nat → Nat → Int64} {R : Nat → Nat → Option Nat} {tl : am_H} {N kp : Nat} (hN : 100 < N) (hkp : kp ≤ 1) : ∀ (n r K : Nat) (P : xT) (V : Nat → Nat → Value) (I : Nat → Nat → Int32) (l : List (Nat × Nat)), r + n = 60 → n + 2 ≤ K → okP P → P.length ≤ 60 → l.length + P.length ≤ 60 → wt V → hold V I 167 0 0 P → (kp = 1 → rwZ V I l) → ∃ W J, fg_269_14 N K (.ref 118) (.ref 167) (nI kp) 1 (nI r) (fx V I L R ++ tl) = some (.inl (none, fx W J L R ++ tl)) ∧ hold W J 167 0 0 (smp n P) ∧ frZ 167 V W I J ∧ rwY kp V W I J l (l ++ smR n P) := by
  intro n
  induction n with
  | zero =>
    intro r K P V I l hr hK ho hl hb hw hh h2
    obtain ⟨K, rfl⟩ : ∃ k, K = k + 1 := ⟨K - 1, by omega⟩
    refine ⟨V, I, ?_, hh, frZ_r, fun _ => ⟨rfl, rfl, rfl⟩, fun _ h => by rw [smR, List.append_nil]; exact h⟩
    apply hd_269_14
    exact ev_f (by decide) (ev_t (nI_le (a := 60) (by omega) (by omega)) rfl)
  | succ n ih =>
    intro r K P V I l hr hK ho hl hb hw hh h2
    obtain ⟨K, rfl⟩ : ∃ k, K = k + 1 := ⟨K - 1, by omega⟩
    have hp := okP_pos ho
    obtain ⟨g1, g2⟩ := c_270_167 (L := L) (R := R) (tl := tl) hN ho hl hkp hw hh
    have st : ∀ (b : Int32) (W : Nat → Nat → Value) (J : Nat → Nat → Int32) (o : Option am_O), fm_270 N (.ref 118) (.ref 167) (nI kp) (fx V I L R ++ tl) = some (.inl (some (.int b), fx W J L R ++ tl)) → fg_269_14 N K (.ref 118) (.ref 167) (nI kp) b (nI (r + 1)) (fx W J L R ++ tl) = o → fg_269_14 N (K + 1) (.ref 118) (.ref 167) (nI kp) 1 (nI r) (fx V I L R ++ tl) = o := fun b W J o e h => by
      apply hd_269_14
      rw [nI_1]
      exact ev_f (by decide) (ev_f (nI_ge (b := 60) (by omega) (by omega)) (ev_i rfl (ev_cI e h)))
    rw [smp, smR]
    cases er : fsK P P.length with
    | none =>
      obtain ⟨W, J, e, q, fk, fv⟩ := g1 er
      obtain ⟨K, rfl⟩ : ∃ k, K = k + 1 := ⟨K - 1, by omega⟩
      refine ⟨W, J, st 0 W J _ e ?_, q, fk, fun _ => fv, fun _ h => ?_⟩
      · apply hd_269_14
        exact ev_t rfl rfl
      · rw [List.append_nil]
        exact ⟨fv.1.trans h.1, by rw [fv.2.1, fv.2.2]; exact h.2⟩
    | some d =>
      obtain ⟨k', w', c⟩ := d
      obtain ⟨a1, a2, a3⟩ := fsK_s _ _ _ _ er
      obtain ⟨b1, b2⟩ := ru_len ho a1 a3
      obtain ⟨W, J, e, q, fk, fr⟩ := g2 k' w' c l er (fun e => ⟨(h2 e).1, by omega⟩)
      obtain ⟨W2, J2, e2, q2, fk2, fr2⟩ := ih (r + 1) K (rp P k' (rMid P k' c)) W J (l ++ [(k', w')]) (by omega) (by omega) b1 (by omega) (by rw [List.length_append]; show l.length + 1 + _ ≤ 60; omega) (fk.2.2 hw) q (fun e => fr.2 e (h2 e))
      refine ⟨W2, J2, st 1 W J _ e e2, q2, frZ_t fk fk2, fun e => ?_, fun e h => ?_⟩
      · obtain ⟨x1, x2, x3⟩ := fr.1 e
        obtain ⟨y1, y2, y3⟩ := fr2.1 e
        exact ⟨y1.trans x1, y2.trans x2, y3.trans x3⟩
      · have := fr2.2 e (fr.2 e h)
        rw [List.append_assoc, List.singleton_append] at this
        exact this
set_option maxRecDepth 100000 in
set_option maxHeartbeats 4000000 in
theorem c_269_167 {V : Nat → Nat → Value} {I : Nat → Nat → Int32} {L : Nat → Nat → Int64} {R : Nat → Nat → Option Nat} {tl : am_H} {N kp : Nat} {P : xT} (hN : 100 < N) (hkp : kp ≤ 1) (ho : okP P) (hl : P.length ≤ 60) (hw : wt V) (hh : hold V I 167 0 0 P) : ∃ W J, fm_269 N (.ref 118) (.ref 167) (nI kp) (fx V I L R ++ tl) = some (.inl (none, fx W J L R ++ tl)) ∧ hold W J 167 0 0 (smp 60 P) ∧ frZ 167 V W I J ∧ (kp = 0 → frU2 V W I J) ∧ (kp = 1 → rwZ W J (smR 60 P)) := by
  rcases (by omega : kp = 0 ∨ kp = 1) with rfl | rfl
  · obtain ⟨W, J, e, q, fk, fr⟩ := c_269l_167 (L := L) (R := R) (tl := tl) (kp := 0) hN (by omega) 60 0 N P V I [] (by omega) (by omega) ho hl (by show 0 + _ ≤ 60; omega) hw hh (fun e => absurd e (by omega))
    refine ⟨W, J, ?_, q, fk, fr.1, fun e => absurd e (by omega)⟩
    apply hm_269
    apply hd_269_0
    exact ev_t rfl e
  · have w1 : wt (vup V 118 2 (.int 0)) := wt_i hw (by decide)
    obtain ⟨W, J, e, q, fk, fr⟩ := c_269l_167 (L := L) (R := R) (tl := tl) (kp := 1) hN (by omega) 60 0 N P (vup V 118 2 (.int 0)) I [] (by omega) (by omega) ho hl (by show 0 + _ ≤ 60; omega) w1 hh (fun _ => ⟨rfl, fun i x h => absurd h (by simp)⟩)
    refine ⟨W, J, ?_, q, frZ_t ⟨fun a j p q r s => vup_o (fun e => r e.1), fun _ _ _ _ _ _ => rfl, fun _ => w1⟩ fk, fun e => absurd e (by omega), fun e => ?_⟩
    · apply hm_269
      apply hd_269_0
      exact ev_f (by decide) (ev_b qp_118_2 e)
    · have h := fr.2 rfl ⟨rfl, fun i x h => absurd h (by simp)⟩
      rw [List.nil_append] at h
      exact h
set_option maxRecDepth 100000 in
set_option maxHeartbeats 4000000 in
theorem c_285l_167 {L : Nat → Nat → Int64} {R : Nat → Nat → Option Nat} {tl : am_H} {N : Nat} {l : List (Nat × Nat)} (hN : 100 < N) (hl60 : l.length ≤ 60) (hlb : ∀ x, x ∈ l → x.1 < 60 ∧ x.2 < 9) : ∀ (m i K : Nat) (P : xT) (V : Nat → Nat → Value) (I : Nat → Nat → Int32), i + m = l.length → m < K → okP P → P.length ≤ 60 → wt V → hold V I 167 0 0 P → V 118 5 = .ref 167 → rwZ V I l → ∃ W J, fg_285_7 N K (.ref 118) (.ref 167) (nI i) (fx V I L R ++ tl) = some (.inl (some (.int (bI (gov (l.drop i) P).isSome)), fx W J L R ++ tl)) ∧ (∀ Q, gov (l.drop i) P = some Q → hold W J 167 0 0 Q ∧ okP Q ∧ Q.length ≤ 60) ∧ frZ 167 V W I J ∧ frU2 V W I J := by
  intro m
  induction m with
  | zero =>
    intro i K P V I hm hK ho hl hw hh h5 hr
    obtain ⟨K, rfl⟩ : ∃ k, K = k + 1 := ⟨K - 1, by omega⟩
    have h2 := hr.1
    rw [List.drop_eq_nil_of_le (by omega), gov]
    refine ⟨V, I, ?_, fun Q e => ?_, frZ_r, rfl, rfl, rfl⟩
    · apply hd_285_7
      exact ev_b (rdI h2) (ev_t (nI_le (by omega) (by omega)) rfl)
    · rw [← Option.some.inj e]
      exact ⟨hh, ho, hl⟩
  | succ m ih =>
    intro i K P V I hm hK ho hl hw hh h5 hr
    obtain ⟨K, rfl⟩ : ∃ k, K = k + 1 := ⟨K - 1, by omega⟩
    have h2 := hr.1
    have hi : i < l.length := by omega
    obtain ⟨n1, n2⟩ := hr.2 i _ (List.getElem?_eq_getElem hi)
    obtain ⟨b1, b2⟩ := hlb _ (List.getElem_mem hi)
    have sp : srcP V I tl 167 168 0 0 P := srcP_167 (L := L) (R := R) hw hh (by omega) (by omega) hl
    obtain ⟨mm, f, p1, p2, p3, p4, -⟩ := sp
    have hF : isF 1 (sl P) := okF_F (sl P) [(0, 1, 0)] ho.1
    rw [← sl_len (P := P)] at p1
    obtain ⟨g, hg, e1⟩ := c_77_121 (L := L) (R := R) hN (by omega) p1 (by decide) (by decide) (by rw [sl_len]; exact p3) p4 (by rw [sl_len]; exact hl) (sl_S ho p2) hF
    rw [sl_len] at hg e1
    have w2 : wt (vup V 121 7 (.int (nI P.length))) := wt_i hw (by decide)
    have hh2 : hold (vup V 121 7 (.int (nI P.length))) (iup I 122 g) 167 0 0 P := hh
    have f2 : frZ 167 V (vup V 121 7 (.int (nI P.length))) I (iup I 122 g) := ⟨fun a j p q r s => vup_o s, fun y p q r s t => iup_na r, fun _ => w2⟩
    have hA3 : vup V 121 7 (.int (nI P.length)) 167 3 = .int (nI P.length) := hh.2.2.1
    have r1 : ∀ {W : Nat → Nat → Value}, am_pA 0 (.ref 119) (nI i) (fx W (iup I 122 g) L R ++ tl) = some (nI l[i].1) := fun {W} => (qa_119 (I := iup I 122 g) (show i < 60 by omega)).trans (congrArg some n1)
    have r2 : ∀ {W : Nat → Nat → Value}, am_pA 0 (.ref 120) (nI i) (fx W (iup I 122 g) L R ++ tl) = some (nI l[i].2) := fun {W} => (qa_120 (I := iup I 122 g) (show i < 60 by omega)).trans (congrArg some n2)
    have hd : l.drop i = l[i] :: l.drop (i + 1) := List.drop_eq_getElem_cons hi
    rw [hd, gov]
    have st1 : ∀ o, (if nI P.length ≤ nI l[i].1 then (fg_285_56 N (fg_285_7 N K) (.ref 118) (.ref 167) (nI i) (-1) (fx (vup V 121 7 (.int (nI P.length))) (iup I 122 g) L R ++ tl)) else (if am_pOk 5 (.ref 118) (fx (vup V 121 7 (.int (nI P.length))) (iup I 122 g) L R ++ tl) then am_cI true (fm_271 N (.ref 118) (nI l[i].1) (nI l[i].2) (fx (vup V 121 7 (.int (nI P.length))) (iup I 122 g) L R ++ tl)) (fun v26 h27 => (fg_285_56 N (fg_285_7 N K) (.ref 118) (.ref 167) (nI i) v26 h27)) else none)) = o → fg_285_7 N (K + 1) (.ref 118) (.ref 167) (nI i) (fx V I L R ++ tl) = o := fun o h => by
      apply hd_285_7
      refine ev_b (rdI h2) (ev_f (nI_ge (by omega) (by omega)) (ev_b (rdR rfl) (ev_i rfl (ev_cV e1 (ev_b (rdR rfl) (ev_b r1 (ev_b (rdI hA3) ?_)))))))
      by_cases c : l[i].1 < P.length
      · rw [if_neg (nI_ge c (by omega))] at h
        exact ev_f (nI_ge c (by omega)) (ev_b (rdR rfl) (ev_b r1 (ev_b (rdR rfl) (ev_b r2 h))))
      · rw [if_pos (nI_le (by omega) (by omega))] at h
        exact ev_t (nI_le (by omega) (by omega)) h
    by_cases c : l[i].1 < P.length
    · rw [if_pos c]
      obtain ⟨y0, hy⟩ := w2.1 118 6 (by decide)
      obtain ⟨y, q1, q2⟩ := c_271 (k := l[i].1) (w := l[i].2) hN ho (rcH_167 (L := L) (R := R) (tl := tl) w2 hh2 hl h5 rfl (fun j hj => hg j hj)) hy c (by omega)
      have st2 : ∀ o, fg_285_56 N (fg_285_7 N K) (.ref 118) (.ref 167) (nI i) (rcI (ru P l[i].1 l[i].2)) (fx (vup (vup V 121 7 (.int (nI P.length))) 118 6 (.int y)) (iup I 122 g) L R ++ tl) = o → fg_285_7 N (K + 1) (.ref 118) (.ref 167) (nI i) (fx V I L R ++ tl) = o := fun o h => st1 o (ev_f (nI_ge c (by omega)) (ev_i rfl (ev_cI q1 h)))
      have w3 : wt (vup (vup V 121 7 (.int (nI P.length))) 118 6 (.int y)) := wt_i w2 (by decide)
      have f3 : frZ 167 V (vup (vup V 121 7 (.int (nI P.length))) 118 6 (.int y)) I (iup I 122 g) := frZ_t f2 ⟨fun a j p q r s => vup_o (fun e => r e.1), fun _ _ _ _ _ _ => rfl, fun _ => w3⟩
      cases er : ru P l[i].1 l[i].2 with
      | none =>
        rw [er] at st2
        refine ⟨_, _, st2 _ ?_, fun Q e => absurd e (by simp), f3, rfl, rfl, rfl⟩
        apply hd_285_56
        exact ev_f (fun e => e rfl) rfl
      | some cc =>
        rw [er] at st2
        have hR := ru_R ho c er
        have hne := rcI_ne hl hR
        obtain ⟨W, J, a1, a2, F1, a4, a5⟩ := c_282_167 (L := L) (R := R) (tl := tl) (V := vup (vup V 121 7 (.int (nI P.length))) 118 6 (.int y)) (I := iup I 122 g) hN ho w3 hl hh2 h5 rfl (fun j hj => hg j hj) c hR (fun e => congrArg Value.int (q2 cc.2 (by rw [er]; exact congrArg some (Prod.ext e rfl))))
        obtain ⟨o1, o2⟩ := ru_len ho c er
        have k2 : W 118 2 = V 118 2 := F1 118 2 (by decide) (by decide)
        have k9 : J 119 = I 119 := a4 119 (by decide) (by decide)
        have k0 : J 120 = I 120 := a4 120 (by decide) (by decide)
        obtain ⟨W2, J2, z1, z2, z3, z4⟩ := ih (i + 1) K (rp P l[i].1 (rMid P l[i].1 cc)) W J (by omega) (by omega) o1 (by omega) (a5 w3) a2 ((F1 118 5 (by decide) (by decide)).trans h5) ⟨k2.trans hr.1, by rw [k9, k0]; exact hr.2⟩
        refine ⟨W2, J2, st2 _ ?_, z2, frZ_t f3 (frZ_t ⟨fun a j p q r s => F1 a j p q, fun y p q r s t => a4 y p q, a5⟩ z3), z4.1.trans k2, z4.2.1.trans k9, z4.2.2.trans k0⟩
        apply hd_285_56
        rw [nI_1]
        exact ev_t hne (ev_b (rdR rfl) (ev_b r1 (ev_i rfl (ev_cV a1 z1))))
    · rw [if_neg c]
      refine ⟨_, _, st1 _ (ev_t (nI_le (by omega) (by omega)) ?_), fun Q e => absurd e (by simp), f2, rfl, rfl, rfl⟩
      apply hd_285_56
      exact ev_f (fun e => e rfl) rfl
theorem c_285_167 {V : Nat → Nat → Value} {I : Nat → Nat → Int32} {L : Nat → Nat → Int64} {R : Nat → Nat → Option Nat} {tl : am_H} {N : Nat} {P : xT} {l : List (Nat × Nat)} (hN : 100 < N) (hl60 : l.length ≤ 60) (hlb : ∀ x, x ∈ l → x.1 < 60 ∧ x.2 < 9) (ho : okP P) (hl : P.length ≤ 60) (hw : wt V) (hh : hold V I 167 0 0 P) (hr : rwZ V I l) : ∃ W J, fm_285 N (.ref 118) (.ref 167) (fx V I L R ++ tl) = some (.inl (some (.int (bI (gov l P).isSome)), fx W J L R ++ tl)) ∧ (∀ Q, gov l P = some Q → hold W J 167 0 0 Q ∧ okP Q ∧ Q.length ≤ 60) ∧ frZ 167 V W I J ∧ frU2 V W I J := by
  have w1 : wt (vup V 118 5 (.ref 167)) := wt_o (by decide) (by decide) hw
  obtain ⟨W, J, z1, z2, z3, z4⟩ := c_285l_167 (L := L) (R := R) (tl := tl) hN hl60 hlb l.length 0 N P (vup V 118 5 (.ref 167)) I (by omega) (by omega) ho hl w1 hh rfl hr
  refine ⟨W, J, ?_, z2, frZ_t ⟨fun a j p q r s => vup_o (fun e => r e.1), fun _ _ _ _ _ _ => rfl, fun _ => w1⟩ z3, z4⟩
  apply hm_285
  apply hd_285_0
  exact ev_b qp_118_5 z1
set_option maxRecDepth 100000 in
set_option maxHeartbeats 4000000 in
theorem c_270i_169 {L : Nat → Nat → Int64} {R : Nat → Nat → Option Nat} {tl : am_H} {N kp k : Nat} {P : xT} {rc : Value → Int32 → Int32 → am_H → Option am_O} (hN : 100 < N) (ho : okP P) (hl : P.length ≤ 60) (hk : k < P.length) (hkp : kp ≤ 1) : ∀ (m w K : Nat) (V : Nat → Nat → Value) (I : Nat → Nat → Int32), w + m = 9 → m < K → wt V → hold V I 169 0 0 P → V 118 5 = .ref 169 → V 121 7 = .int (nI P.length) → (∀ j, j < P.length → I 122 j = nI (xE P j)) → (fsW P k m w = none → ∃ W, fg_270_27 N rc K (.ref 118) (nI kp) (nI k) (nI w) (fx V I L R ++ tl) = rc (.ref 118) (nI kp) (nI k + (-1)) (fx W I L R ++ tl) ∧ (∀ a j, ¬ (a = 118 ∧ j = 6) → W a j = V a j) ∧ (wt V → wt W)) ∧ (∀ w' c l, fsW P k m w = some (w', c) → (kp = 1 → V 118 2 = .int (nI l.length) ∧ l.length < 60) → ∃ W J, fg_270_27 N rc K (.ref 118) (nI kp) (nI k) (nI w) (fx V I L R ++ tl) = some (.inl (some (.int 1), fx W J L R ++ tl)) ∧ hold W J 169 0 0 (rp P k (rMid P k c)) ∧ frZ 169 V W I J ∧ rwY kp V W I J l (l ++ [(k, w')])) := by
  intro m
  induction m with
  | zero =>
    intro w K V I hm hK hw hh h5 h7 hg
    obtain ⟨K, rfl⟩ : ∃ k, K = k + 1 := ⟨K - 1, by omega⟩
    refine ⟨fun _ => ⟨V, ?_, fun _ _ _ => rfl, id⟩, fun w' c l e => absurd e (by rw [fsW]; simp)⟩
    apply hd_270_27
    exact ev_t (nI_le (a := 9) (by omega) (by omega)) rfl
  | succ m ih =>
    intro w K V I hm hK hw hh h5 h7 hg
    obtain ⟨K, rfl⟩ : ∃ k, K = k + 1 := ⟨K - 1, by omega⟩
    obtain ⟨y0, hy⟩ := hw.1 118 6 (by decide)
    obtain ⟨y, e1, e2⟩ := c_271 (k := k) (w := w) hN ho (rcH_169 (L := L) (R := R) (tl := tl) hw hh hl h5 h7 hg) hy hk (by omega)
    have hw2 : wt (vup V 118 6 (.int y)) := wt_i hw (by decide)
    have hh2 : hold (vup V 118 6 (.int y)) I 169 0 0 P := hh
    rw [fsW_r]
    cases er : ru P k w with
    | none =>
      rw [er] at e1
      have e1 : fm_271 N (.ref 118) (nI k) (nI w) (fx V I L R ++ tl) = some (.inl (some (.int (-1)), fx (vup V 118 6 (.int y)) I L R ++ tl)) := e1
      obtain ⟨g1, g2⟩ := ih (w + 1) K (vup V 118 6 (.int y)) I (by omega) (by omega) hw2 hh2 h5 h7 hg
      have st : ∀ o, fg_270_27 N rc K (.ref 118) (nI kp) (nI k) (nI (w + 1)) (fx (vup V 118 6 (.int y)) I L R ++ tl) = o → fg_270_27 N rc (K + 1) (.ref 118) (nI kp) (nI k) (nI w) (fx V I L R ++ tl) = o := fun o h => by
        apply hd_270_27
        rw [nI_1]
        exact ev_f (nI_ge (b := 9) (by omega) (by omega)) (ev_i rfl (ev_cI e1 (ev_t rfl h)))
      refine ⟨fun h => ?_, fun w' c l h hl2 => ?_⟩
      · obtain ⟨W, a1, a2, a3⟩ := g1 h
        exact ⟨W, st _ a1, fun a j n => (a2 a j n).trans (vup_o n), fun _ => a3 hw2⟩
      · obtain ⟨W, J, a1, a2, a3, a4⟩ := g2 w' c l h hl2
        refine ⟨W, J, st _ a1, a2, frZ_t ⟨fun a j _ _ n _ => vup_o (fun e => n e.1), fun _ _ _ _ _ _ => rfl, fun _ => hw2⟩ a3, a4⟩
    | some c =>
      rw [er] at e1
      refine ⟨fun h => absurd h (by simp), fun w' c' l h hl2 => ?_⟩
      injection h with h
      injection h with h1 h2
      subst h1
      subst h2
      have hR := ru_R ho hk er
      have hne := rcI_ne hl hR
      obtain ⟨W, J, a1, a2, F1, a4, a5⟩ := c_282_169 (L := L) (R := R) (tl := tl) hN ho hw2 hl hh2 h5 h7 hg hk hR (fun e => congrArg Value.int (e2 c.2 (by rw [er]; exact congrArg some (Prod.ext e rfl))))
      have b2 : W 118 2 = V 118 2 := F1 118 2 (by decide) (by decide)
      have w2 := a5 hw2
      have st : ∀ o, (if nI kp = 0 then (fg_270_103 N (fx W J L R ++ tl)) else ((am_vI (am_pG 1282 (.ref 118) (fx W J L R ++ tl))).bind fun v12 => ((am_vR (am_pG 1280 (.ref 118) (fx W J L R ++ tl))).bind fun v14 => ((am_pLen v14 (fx W J L R ++ tl)).bind fun v16 => (if v16 ≤ v12 then (fg_270_103 N (fx W J L R ++ tl)) else ((am_vR (am_pG 1280 (.ref 118) (fx W J L R ++ tl))).bind fun v19 => ((am_vI (am_pG 1282 (.ref 118) (fx W J L R ++ tl))).bind fun v21 => ((am_pS 0 v19 v21 (nI k) (fx W J L R ++ tl)).bind fun h23 => ((am_vR (am_pG 1281 (.ref 118) h23)).bind fun v25 => ((am_vI (am_pG 1282 (.ref 118) h23)).bind fun v27 => ((am_pS 0 v25 v27 (nI w) h23).bind fun h29 => ((am_vI (am_pG 1282 (.ref 118) h29)).bind fun v31 => ((am_pP 1282 (.ref 118) (.int (v31 + 1)) h29).bind fun h33 => (fg_270_103 N h33)))))))))))))) = o → fg_270_27 N rc (K + 1) (.ref 118) (nI kp) (nI k) (nI w) (fx V I L R ++ tl) = o := fun o h => by
        apply hd_270_27
        exact ev_f (nI_ge (b := 9) (by omega) (by omega)) (ev_i rfl (ev_cI e1 (ev_f hne (ev_i rfl (ev_cV a1 h)))))
      have fk : frZ 169 V W I J := ⟨fun a j p q r s => (F1 a j p q).trans (vup_o (fun e => r e.1)), fun y p q r s t => a4 y p q, fun _ => w2⟩
      rcases (by omega : kp = 0 ∨ kp = 1) with rfl | rfl
      · exact ⟨W, J, st _ (ev_t rfl rfl), a2, fk, fun _ => ⟨b2, a4 119 (by decide) (by decide), a4 120 (by decide) (by decide)⟩, fun e => absurd e (by omega)⟩
      · obtain ⟨hc1, hc2⟩ := hl2 rfl
        have hc3 : W 118 2 = .int (nI l.length) := b2.trans hc1
        refine ⟨vup W 118 2 (.int (nI (l.length + 1))), iup (iup J 119 (upd (J 119) l.length (nI k))) 120 (upd (J 120) l.length (nI w)), st _ ?_, ?_, ?_, fun e => absurd e (by omega), fun _ hr => rwZ_s (I := J) (V := W) ⟨hc3, fun i x hx => ?_⟩ rfl rfl _ rfl⟩
        · (repeat (first | ((with_reducible apply ev_i); first | (with_reducible assumption) | (with_reducible exact qk_118) | exact bI_fit _ | exact rfl) | ((with_reducible apply ev_vR); first | (with_reducible assumption) | (with_reducible exact rdR qr_118_0) | (with_reducible exact rdR qr_118_1) | ((with_reducible apply rVR qv_118_2); (first | (with_reducible assumption) | exact rfl | exact (F1 _ _ (by decide)).trans (by first | (with_reducible assumption) | exact rfl) | exact (F2 _ _ (by decide)).trans (by first | (with_reducible assumption) | exact rfl) | exact (F3 _ _ (by decide)).trans (by first | (with_reducible assumption) | exact rfl))) | (with_reducible exact rdR qr_118_3) | (with_reducible exact rdR qr_118_4) | ((with_reducible apply rVR qv_118_5); (first | (with_reducible assumption) | exact rfl | exact (F1 _ _ (by decide)).trans (by first | (with_reducible assumption) | exact rfl) | exact (F2 _ _ (by decide)).trans (by first | (with_reducible assumption) | exact rfl) | exact (F3 _ _ (by decide)).trans (by first | (with_reducible assumption) | exact rfl))) | ((with_reducible apply rVR qv_118_6); (first | (with_reducible assumption) | exact rfl | exact (F1 _ _ (by decide)).trans (by first | (with_reducible assumption) | exact rfl) | exact (F2 _ _ (by decide)).trans (by first | (with_reducible assumption) | exact rfl) | exact (F3 _ _ (by decide)).trans (by first | (with_reducible assumption) | exact rfl)))) | ((with_reducible apply ev_vI); first | (with_reducible assumption) | ((with_reducible apply rVI qv_118_2); (first | (with_reducible assumption) | exact rfl | exact (F1 _ _ (by decide)).trans (by first | (with_reducible assumption) | exact rfl) | exact (F2 _ _ (by decide)).trans (by first | (with_reducible assumption) | exact rfl) | exact (F3 _ _ (by decide)).trans (by first | (with_reducible assumption) | exact rfl))) | ((with_reducible apply rVI qv_118_5); (first | (with_reducible assumption) | exact rfl | exact (F1 _ _ (by decide)).trans (by first | (with_reducible assumption) | exact rfl) | exact (F2 _ _ (by decide)).trans (by first | (with_reducible assumption) | exact rfl) | exact (F3 _ _ (by decide)).trans (by first | (with_reducible assumption) | exact rfl))) | ((with_reducible apply rVI qv_118_6); (first | (with_reducible assumption) | exact rfl | exact (F1 _ _ (by decide)).trans (by first | (with_reducible assumption) | exact rfl) | exact (F2 _ _ (by decide)).trans (by first | (with_reducible assumption) | exact rfl) | exact (F3 _ _ (by decide)).trans (by first | (with_reducible assumption) | exact rfl)))) | ((with_reducible apply ev_pA); first | (with_reducible assumption) | ((with_reducible apply qa_119) <;> (first | (with_reducible assumption) | omega | exact rfl)) | ((with_reducible apply qa_120) <;> (first | (with_reducible assumption) | omega | exact rfl))) | ((with_reducible apply ev_pS); first | (with_reducible assumption) | ((with_reducible apply qs_119) <;> (first | (with_reducible assumption) | omega | exact rfl)) | ((with_reducible apply qs_120) <;> (first | (with_reducible assumption) | omega | exact rfl))) | ((with_reducible apply ev_pP); first | (with_reducible assumption) | (with_reducible exact qp_118_2) | (with_reducible exact qp_118_5)) | ((with_reducible apply ev_len); first | (with_reducible assumption) | (with_reducible exact ql_119) | (with_reducible exact ql_120)) | ((with_reducible apply ev_vL); first | (with_reducible assumption) | ((with_reducible apply rVL qv_118_2); (first | (with_reducible assumption) | exact rfl | exact (F1 _ _ (by decide)).trans (by first | (with_reducible assumption) | exact rfl) | exact (F2 _ _ (by decide)).trans (by first | (with_reducible assumption) | exact rfl) | exact (F3 _ _ (by decide)).trans (by first | (with_reducible assumption) | exact rfl))) | ((with_reducible apply rVL qv_118_5); (first | (with_reducible assumption) | exact rfl | exact (F1 _ _ (by decide)).trans (by first | (with_reducible assumption) | exact rfl) | exact (F2 _ _ (by decide)).trans (by first | (with_reducible assumption) | exact rfl) | exact (F3 _ _ (by decide)).trans (by first | (with_reducible assumption) | exact rfl))) | ((with_reducible apply rVL qv_118_6); (first | (with_reducible assumption) | exact rfl | exact (F1 _ _ (by decide)).trans (by first | (with_reducible assumption) | exact rfl) | exact (F2 _ _ (by decide)).trans (by first | (with_reducible assumption) | exact rfl) | exact (F3 _ _ (by decide)).trans (by first | (with_reducible assumption) | exact rfl)))) | ((with_reducible apply ev_cI); first | (with_reducible assumption)) | ((with_reducible apply ev_cV); first | (with_reducible assumption)) | ((with_reducible apply ev_cL); first | (with_reducible assumption)) | ((with_reducible apply ev_cR); (first | (with_reducible assumption)); exact rfl) | ((with_reducible apply ev_t); (first | (with_reducible assumption) | decide | (simp (disch := omega) only [i_0, i_1, i_2, i_3, i_4, i_5, i_6, i_7, i_8, i_9, i_10, i_11, i_12, i_13, i_14, i_15, i_16, i_17, i_18, i_19, i_20, i_21, i_25, i_40, i_60, i_61, i_99, i_100, i_120, i_124, i_128, i_240, i_400, nI_add, nI_mm, bI_t, bI_f, nI_eq, nI_leI, nI_ltI, nI_sub, Classical.not_not] <;> omega))) | ((with_reducible apply ev_f); (first | (with_reducible assumption) | decide | (simp (disch := omega) only [i_0, i_1, i_2, i_3, i_4, i_5, i_6, i_7, i_8, i_9, i_10, i_11, i_12, i_13, i_14, i_15, i_16, i_17, i_18, i_19, i_20, i_21, i_25, i_40, i_60, i_61, i_99, i_100, i_120, i_124, i_128, i_240, i_400, nI_add, nI_mm, bI_t, bI_f, nI_eq, nI_leI, nI_ltI, nI_sub, Classical.not_not] <;> omega))) | (with_reducible apply hd_270_103) | (simp only [nI_add, nI_1, nI_p2, nI_p3, nI_p4, nI_p5, nI_p6, nI_p7, nI_p10, nI_t2, nI_t5, nI_2t, nI_5t, nI_4t, nI_6t, nI_21t, nI_mm])))
          all_goals exact rfl
        · exact a2
        · exact frZ_t fk ⟨fun a j p q r s => vup_o (fun e => r e.1), fun y p q r s t => by rw [iup_na t, iup_na s], fun w => wt_i w (by decide)⟩
        · rw [a4 119 (by decide) (by decide), a4 120 (by decide) (by decide)]
          exact hr.2 i x hx
set_option maxRecDepth 100000 in
set_option maxHeartbeats 4000000 in
theorem c_270o_169 {L : Nat → Nat → Int64} {R : Nat → Nat → Option Nat} {tl : am_H} {N kp : Nat} {P : xT} (hN : 100 < N) (ho : okP P) (hl : P.length ≤ 60) (hkp : kp ≤ 1) : ∀ (k K : Nat) (V : Nat → Nat → Value) (I : Nat → Nat → Int32), k ≤ P.length → k < K → wt V → hold V I 169 0 0 P → V 118 5 = .ref 169 → V 121 7 = .int (nI P.length) → (∀ j, j < P.length → I 122 j = nI (xE P j)) → (fsK P k = none → ∃ W, fg_270_20 N K (.ref 118) (nI kp) (nI k + (-1)) (fx V I L R ++ tl) = some (.inl (some (.int 0), fx W I L R ++ tl)) ∧ (∀ a j, ¬ (a = 118 ∧ j = 6) → W a j = V a j) ∧ (wt V → wt W)) ∧ (∀ k' w' c l, fsK P k = some (k', w', c) → (kp = 1 → V 118 2 = .int (nI l.length) ∧ l.length < 60) → ∃ W J, fg_270_20 N K (.ref 118) (nI kp) (nI k + (-1)) (fx V I L R ++ tl) = some (.inl (some (.int 1), fx W J L R ++ tl)) ∧ hold W J 169 0 0 (rp P k' (rMid P k' c)) ∧ frZ 169 V W I J ∧ rwY kp V W I J l (l ++ [(k', w')])) := by
  intro k
  induction k with
  | zero =>
    intro K V I hk hK hw hh h5 h7 hg
    obtain ⟨K, rfl⟩ : ∃ k, K = k + 1 := ⟨K - 1, by omega⟩
    refine ⟨fun _ => ⟨V, ?_, fun _ _ _ => rfl, id⟩, fun k' w' c l e => absurd e (by rw [fsK]; simp)⟩
    apply hd_270_20
    exact ev_t (by decide) rfl
  | succ k ih =>
    intro K V I hk hK hw hh h5 h7 hg
    obtain ⟨K, rfl⟩ : ∃ k, K = k + 1 := ⟨K - 1, by omega⟩
    obtain ⟨g1, g2⟩ := c_270i_169 (L := L) (R := R) (tl := tl) (rc := fg_270_20 N K) hN ho hl (show k < P.length by omega) hkp 9 0 N V I (by omega) (by omega) hw hh h5 h7 hg
    have st : ∀ o, fg_270_27 N (fg_270_20 N K) N (.ref 118) (nI kp) (nI k) 0 (fx V I L R ++ tl) = o → fg_270_20 N (K + 1) (.ref 118) (nI kp) (nI (k + 1) + (-1)) (fx V I L R ++ tl) = o := fun o h => by
      apply hd_270_20
      rw [nI_m1]
      exact ev_f (nI_pos (by omega)) h
    rw [fsK_r]
    cases er : fsW P k 9 0 with
    | none =>
      obtain ⟨W1, a1, a2, a3⟩ := g1 er
      have hh1 : hold W1 I 169 0 0 P := ⟨(a2 _ _ (by decide)).trans hh.1, (a2 _ _ (by decide)).trans hh.2.1, (a2 _ _ (by decide)).trans hh.2.2.1, (a2 _ _ (by decide)).trans hh.2.2.2.1, hh.2.2.2.2⟩
      obtain ⟨i1, i2⟩ := ih K W1 I (by omega) (by omega) (a3 hw) hh1 ((a2 _ _ (by decide)).trans h5) ((a2 _ _ (by decide)).trans h7) hg
      refine ⟨fun h => ?_, fun k' w' c l h hl2 => ?_⟩
      · obtain ⟨W, b1, b2, b3⟩ := i1 h
        exact ⟨W, st _ (a1.trans b1), fun a j n => (b2 a j n).trans (a2 a j n), fun w => b3 (a3 w)⟩
      · have e2 : W1 118 2 = V 118 2 := a2 118 2 (by decide)
        obtain ⟨W, J, b1, b2, b3, b4⟩ := i2 k' w' c l h (by rw [e2]; exact hl2)
        refine ⟨W, J, st _ (a1.trans b1), b2, frZ_t ⟨fun a j p q r s => a2 a j (fun e => r e.1), fun _ _ _ _ _ _ => rfl, a3⟩ b3, fun e => ?_, fun e hr => b4.2 e ⟨e2.trans hr.1, hr.2⟩⟩
        obtain ⟨c1, c2⟩ := b4.1 e
        exact ⟨c1.trans e2, c2⟩
    | some d =>
      obtain ⟨w1, c1⟩ := d
      refine ⟨fun h => absurd h (by simp), fun k' w' c l h hl2 => ?_⟩
      injection h with h
      injection h with h1 h2
      injection h2 with h2 h3
      subst h1
      subst h2
      subst h3
      obtain ⟨W, J, b1, b2⟩ := g2 w1 c1 l er hl2
      exact ⟨W, J, st _ b1, b2⟩
set_option maxRecDepth 100000 in
set_option maxHeartbeats 4000000 in
theorem c_270_169 {V : Nat → Nat → Value} {I : Nat → Nat → Int32} {L : Nat → Nat → Int64} {R : Nat → Nat → Option Nat} {tl : am_H} {N kp : Nat} {P : xT} (hN : 100 < N) (ho : okP P) (hl : P.length ≤ 60) (hkp : kp ≤ 1) (hw : wt V) (hh : hold V I 169 0 0 P) : (fsK P P.length = none → ∃ W J, fm_270 N (.ref 118) (.ref 169) (nI kp) (fx V I L R ++ tl) = some (.inl (some (.int 0), fx W J L R ++ tl)) ∧ hold W J 169 0 0 P ∧ frZ 169 V W I J ∧ frU2 V W I J) ∧ (∀ k' w' c l, fsK P P.length = some (k', w', c) → (kp = 1 → V 118 2 = .int (nI l.length) ∧ l.length < 60) → ∃ W J, fm_270 N (.ref 118) (.ref 169) (nI kp) (fx V I L R ++ tl) = some (.inl (some (.int 1), fx W J L R ++ tl)) ∧ hold W J 169 0 0 (rp P k' (rMid P k' c)) ∧ frZ 169 V W I J ∧ rwY kp V W I J l (l ++ [(k', w')])) := by
  have w1 : wt (vup V 118 5 (.ref 169)) := wt_o (by decide) (by decide) hw
  have sp : srcP (vup V 118 5 (.ref 169)) I tl 169 170 0 0 P := srcP_169 (L := L) (R := R) w1 hh (by omega) (by omega) hl
  obtain ⟨m, f, p1, p2, p3, p4, -⟩ := sp
  have hF : isF 1 (sl P) := okF_F (sl P) [(0, 1, 0)] ho.1
  rw [← sl_len (P := P)] at p1
  obtain ⟨g, hg, e1⟩ := c_77_121 (L := L) (R := R) hN (by omega) p1 (by decide) (by decide) (by rw [sl_len]; exact p3) p4 (by rw [sl_len]; exact hl) (sl_S ho p2) hF
  rw [sl_len] at hg e1
  have w2 : wt (vup (vup V 118 5 (.ref 169)) 121 7 (.int (nI P.length))) := wt_i w1 (by decide)
  have hh2 : hold (vup (vup V 118 5 (.ref 169)) 121 7 (.int (nI P.length))) (iup I 122 g) 169 0 0 P := hh
  have f2 : frZ 169 V (vup (vup V 118 5 (.ref 169)) 121 7 (.int (nI P.length))) I (iup I 122 g) := ⟨fun a j p q r s => by rw [vup_o s, vup_o (fun e => r e.1)], fun y p q r s t => iup_na r, fun _ => w2⟩
  have hp := okP_pos ho
  obtain ⟨g1, g2⟩ := c_270o_169 (L := L) (R := R) (tl := tl) hN ho hl hkp P.length N _ _ (Nat.le_refl _) (by omega) w2 hh2 rfl rfl (fun j hj => hg j hj)
  have hA3 : vup (vup V 118 5 (.ref 169)) 121 7 (.int (nI P.length)) 169 3 = .int (nI P.length) := hh.2.2.1
  have st : ∀ o, fg_270_20 N N (.ref 118) (nI kp) (nI P.length + (-1)) (fx (vup (vup V 118 5 (.ref 169)) 121 7 (.int (nI P.length))) (iup I 122 g) L R ++ tl) = o → fm_270 N (.ref 118) (.ref 169) (nI kp) (fx V I L R ++ tl) = o := fun o h => by
    apply hm_270
    apply hd_270_0
    refine ev_b qp_118_5 (ev_b (rdR rfl) (ev_i rfl (ev_cV e1 (ev_b (rdI hA3) ?_))))
    rw [show nI P.length - 1 = nI P.length + (-1) from Int32.sub_eq_add_neg ..]
    exact h
  refine ⟨fun h => ?_, fun k' w' c l h hl2 => ?_⟩
  · obtain ⟨W, b1, b2, b3⟩ := g1 h
    refine ⟨W, _, st _ b1, ?_, frZ_t f2 ⟨fun a j p q r s => b2 a j (fun e => r e.1), fun _ _ _ _ _ _ => rfl, b3⟩, (b2 118 2 (by decide)).trans rfl, rfl, rfl⟩
    exact ⟨(b2 _ _ (by decide)).trans hh.1, (b2 _ _ (by decide)).trans hh.2.1, (b2 _ _ (by decide)).trans hh.2.2.1, (b2 _ _ (by decide)).trans hh.2.2.2.1, hh.2.2.2.2⟩
  · obtain ⟨W, J, b1, b2, b3, b4⟩ := g2 k' w' c l h hl2
    exact ⟨W, J, st _ b1, b2, frZ_t f2 b3, fun e => b4.1 e, fun e hr => b4.2 e hr⟩
set_option maxRecDepth 100000 in
set_option maxHeartbeats 4000000 in
theorem c_269l_169 {L : Nat → Nat → Int64} {R : Nat → Nat → Option Nat} {tl : am_H} {N kp : Nat} (hN : 100 < N) (hkp : kp ≤ 1) : ∀ (n r K : Nat) (P : xT) (V : Nat → Nat → Value) (I : Nat → Nat → Int32) (l : List (Nat × Nat)), r + n = 60 → n + 2 ≤ K → okP P → P.length ≤ 60 → l.length + P.length ≤ 60 → wt V → hold V I 169 0 0 P → (kp = 1 → rwZ V I l) → ∃ W J, fg_269_14 N K (.ref 118) (.ref 169) (nI kp) 1 (nI r) (fx V I L R ++ tl) = some (.inl (none, fx W J L R ++ tl)) ∧ hold W J 169 0 0 (smp n P) ∧ frZ 169 V W I J ∧ rwY kp V W I J l (l ++ smR n P) := by
  intro n
  induction n with
  | zero =>
    intro r K P V I l hr hK ho hl hb hw hh h2
    obtain ⟨K, rfl⟩ : ∃ k, K = k + 1 := ⟨K - 1, by omega⟩
    refine ⟨V, I, ?_, hh, frZ_r, fun _ => ⟨rfl, rfl, rfl⟩, fun _ h => by rw [smR, List.append_nil]; exact h⟩
    apply hd_269_14
    exact ev_f (by decide) (ev_t (nI_le (a := 60) (by omega) (by omega)) rfl)
  | succ n ih =>
    intro r K P V I l hr hK ho hl hb hw hh h2
    obtain ⟨K, rfl⟩ : ∃ k, K = k + 1 := ⟨K - 1, by omega⟩
    have hp := okP_pos ho
    obtain ⟨g1, g2⟩ := c_270_169 (L := L) (R := R) (tl := tl) hN ho hl hkp hw hh
    have st : ∀ (b : Int32) (W : Nat → Nat → Value) (J : Nat → Nat → Int32) (o : Option am_O), fm_270 N (.ref 118) (.ref 169) (nI kp) (fx V I L R ++ tl) = some (.inl (some (.int b), fx W J L R ++ tl)) → fg_269_14 N K (.ref 118) (.ref 169) (nI kp) b (nI (r + 1)) (fx W J L R ++ tl) = o → fg_269_14 N (K + 1) (.ref 118) (.ref 169) (nI kp) 1 (nI r) (fx V I L R ++ tl) = o := fun b W J o e h => by
      apply hd_269_14
      rw [nI_1]
      exact ev_f (by decide) (ev_f (nI_ge (b := 60) (by omega) (by omega)) (ev_i rfl (ev_cI e h)))
    rw [smp, smR]
    cases er : fsK P P.length with
    | none =>
      obtain ⟨W, J, e, q, fk, fv⟩ := g1 er
      obtain ⟨K, rfl⟩ : ∃ k, K = k + 1 := ⟨K - 1, by omega⟩
      refine ⟨W, J, st 0 W J _ e ?_, q, fk, fun _ => fv, fun _ h => ?_⟩
      · apply hd_269_14
        exact ev_t rfl rfl
      · rw [List.append_nil]
        exact ⟨fv.1.trans h.1, by rw [fv.2.1, fv.2.2]; exact h.2⟩
    | some d =>
      obtain ⟨k', w', c⟩ := d
      obtain ⟨a1, a2, a3⟩ := fsK_s _ _ _ _ er
      obtain ⟨b1, b2⟩ := ru_len ho a1 a3
      obtain ⟨W, J, e, q, fk, fr⟩ := g2 k' w' c l er (fun e => ⟨(h2 e).1, by omega⟩)
      obtain ⟨W2, J2, e2, q2, fk2, fr2⟩ := ih (r + 1) K (rp P k' (rMid P k' c)) W J (l ++ [(k', w')]) (by omega) (by omega) b1 (by omega) (by rw [List.length_append]; show l.length + 1 + _ ≤ 60; omega) (fk.2.2 hw) q (fun e => fr.2 e (h2 e))
      refine ⟨W2, J2, st 1 W J _ e e2, q2, frZ_t fk fk2, fun e => ?_, fun e h => ?_⟩
      · obtain ⟨x1, x2, x3⟩ := fr.1 e
        obtain ⟨y1, y2, y3⟩ := fr2.1 e
        exact ⟨y1.trans x1, y2.trans x2, y3.trans x3⟩
      · have := fr2.2 e (fr.2 e h)
        rw [List.append_assoc, List.singleton_append] at this
        exact this
set_option maxRecDepth 100000 in
set_option maxHeartbeats 4000000 in
theorem c_269_169 {V : Nat → Nat → Value} {I : Nat → Nat → Int32} {L : Nat → Nat → Int64} {R : Nat → Nat → Option Nat} {tl : am_H} {N kp : Nat} {P : xT} (hN : 100 < N) (hkp : kp ≤ 1) (ho : okP P) (hl : P.length ≤ 60) (hw : wt V) (hh : hold V I 169 0 0 P) : ∃ W J, fm_269 N (.ref 118) (.ref 169) (nI kp) (fx V I L R ++ tl) = some (.inl (none, fx W J L R ++ tl)) ∧ hold W J 169 0 0 (smp 60 P) ∧ frZ 169 V W I J ∧ (kp = 0 → frU2 V W I J) ∧ (kp = 1 → rwZ W J (smR 60 P)) := by
  rcases (by omega : kp = 0 ∨ kp = 1) with rfl | rfl
  · obtain ⟨W, J, e, q, fk, fr⟩ := c_269l_169 (L := L) (R := R) (tl := tl) (kp := 0) hN (by omega) 60 0 N P V I [] (by omega) (by omega) ho hl (by show 0 + _ ≤ 60; omega) hw hh (fun e => absurd e (by omega))
    refine ⟨W, J, ?_, q, fk, fr.1, fun e => absurd e (by omega)⟩
    apply hm_269
    apply hd_269_0
    exact ev_t rfl e
  · have w1 : wt (vup V 118 2 (.int 0)) := wt_i hw (by decide)
    obtain ⟨W, J, e, q, fk, fr⟩ := c_269l_169 (L := L) (R := R) (tl := tl) (kp := 1) hN (by omega) 60 0 N P (vup V 118 2 (.int 0)) I [] (by omega) (by omega) ho hl (by show 0 + _ ≤ 60; omega) w1 hh (fun _ => ⟨rfl, fun i x h => absurd h (by simp)⟩)
    refine ⟨W, J, ?_, q, frZ_t ⟨fun a j p q r s => vup_o (fun e => r e.1), fun _ _ _ _ _ _ => rfl, fun _ => w1⟩ fk, fun e => absurd e (by omega), fun e => ?_⟩
    · apply hm_269
      apply hd_269_0
      exact ev_f (by decide) (ev_b qp_118_2 e)
    · have h := fr.2 rfl ⟨rfl, fun i x h => absurd h (by simp)⟩
      rw [List.nil_append] at h
      exact h
set_option maxRecDepth 100000 in
set_option maxHeartbeats 4000000 in
theorem c_285l_169 {L : Nat → Nat → Int64} {R : Nat → Nat → Option Nat} {tl : am_H} {N : Nat} {l : List (Nat × Nat)} (hN : 100 < N) (hl60 : l.length ≤ 60) (hlb : ∀ x, x ∈ l → x.1 < 60 ∧ x.2 < 9) : ∀ (m i K : Nat) (P : xT) (V : Nat → Nat → Value) (I : Nat → Nat → Int32), i + m = l.length → m < K → okP P → P.length ≤ 60 → wt V → hold V I 169 0 0 P → V 118 5 = .ref 169 → rwZ V I l → ∃ W J, fg_285_7 N K (.ref 118) (.ref 169) (nI i) (fx V I L R ++ tl) = some (.inl (some (.int (bI (gov (l.drop i) P).isSome)), fx W J L R ++ tl)) ∧ (∀ Q, gov (l.drop i) P = some Q → hold W J 169 0 0 Q ∧ okP Q ∧ Q.length ≤ 60) ∧ frZ 169 V W I J ∧ frU2 V W I J := by
  intro m
  induction m with
  | zero =>
    intro i K P V I hm hK ho hl hw hh h5 hr
    obtain ⟨K, rfl⟩ : ∃ k, K = k + 1 := ⟨K - 1, by omega⟩
    have h2 := hr.1
    rw [List.drop_eq_nil_of_le (by omega), gov]
    refine ⟨V, I, ?_, fun Q e => ?_, frZ_r, rfl, rfl, rfl⟩
    · apply hd_285_7
      exact ev_b (rdI h2) (ev_t (nI_le (by omega) (by omega)) rfl)
    · rw [← Option.some.inj e]
      exact ⟨hh, ho, hl⟩
  | succ m ih =>
    intro i K P V I hm hK ho hl hw hh h5 hr
    obtain ⟨K, rfl⟩ : ∃ k, K = k + 1 := ⟨K - 1, by omega⟩
    have h2 := hr.1
    have hi : i < l.length := by omega
    obtain ⟨n1, n2⟩ := hr.2 i _ (List.getElem?_eq_getElem hi)
    obtain ⟨b1, b2⟩ := hlb _ (List.getElem_mem hi)
    have sp : srcP V I tl 169 170 0 0 P := srcP_169 (L := L) (R := R) hw hh (by omega) (by omega) hl
    obtain ⟨mm, f, p1, p2, p3, p4, -⟩ := sp
    have hF : isF 1 (sl P) := okF_F (sl P) [(0, 1, 0)] ho.1
    rw [← sl_len (P := P)] at p1
    obtain ⟨g, hg, e1⟩ := c_77_121 (L := L) (R := R) hN (by omega) p1 (by decide) (by decide) (by rw [sl_len]; exact p3) p4 (by rw [sl_len]; exact hl) (sl_S ho p2) hF
    rw [sl_len] at hg e1
    have w2 : wt (vup V 121 7 (.int (nI P.length))) := wt_i hw (by decide)
    have hh2 : hold (vup V 121 7 (.int (nI P.length))) (iup I 122 g) 169 0 0 P := hh
    have f2 : frZ 169 V (vup V 121 7 (.int (nI P.length))) I (iup I 122 g) := ⟨fun a j p q r s => vup_o s, fun y p q r s t => iup_na r, fun _ => w2⟩
    have hA3 : vup V 121 7 (.int (nI P.length)) 169 3 = .int (nI P.length) := hh.2.2.1
    have r1 : ∀ {W : Nat → Nat → Value}, am_pA 0 (.ref 119) (nI i) (fx W (iup I 122 g) L R ++ tl) = some (nI l[i].1) := fun {W} => (qa_119 (I := iup I 122 g) (show i < 60 by omega)).trans (congrArg some n1)
    have r2 : ∀ {W : Nat → Nat → Value}, am_pA 0 (.ref 120) (nI i) (fx W (iup I 122 g) L R ++ tl) = some (nI l[i].2) := fun {W} => (qa_120 (I := iup I 122 g) (show i < 60 by omega)).trans (congrArg some n2)
    have hd : l.drop i = l[i] :: l.drop (i + 1) := List.drop_eq_getElem_cons hi
    rw [hd, gov]
    have st1 : ∀ o, (if nI P.length ≤ nI l[i].1 then (fg_285_56 N (fg_285_7 N K) (.ref 118) (.ref 169) (nI i) (-1) (fx (vup V 121 7 (.int (nI P.length))) (iup I 122 g) L R ++ tl)) else (if am_pOk 5 (.ref 118) (fx (vup V 121 7 (.int (nI P.length))) (iup I 122 g) L R ++ tl) then am_cI true (fm_271 N (.ref 118) (nI l[i].1) (nI l[i].2) (fx (vup V 121 7 (.int (nI P.length))) (iup I 122 g) L R ++ tl)) (fun v26 h27 => (fg_285_56 N (fg_285_7 N K) (.ref 118) (.ref 169) (nI i) v26 h27)) else none)) = o → fg_285_7 N (K + 1) (.ref 118) (.ref 169) (nI i) (fx V I L R ++ tl) = o := fun o h => by
      apply hd_285_7
      refine ev_b (rdI h2) (ev_f (nI_ge (by omega) (by omega)) (ev_b (rdR rfl) (ev_i rfl (ev_cV e1 (ev_b (rdR rfl) (ev_b r1 (ev_b (rdI hA3) ?_)))))))
      by_cases c : l[i].1 < P.length
      · rw [if_neg (nI_ge c (by omega))] at h
        exact ev_f (nI_ge c (by omega)) (ev_b (rdR rfl) (ev_b r1 (ev_b (rdR rfl) (ev_b r2 h))))
      · rw [if_pos (nI_le (by omega) (by omega))] at h
        exact ev_t (nI_le (by omega) (by omega)) h
    by_cases c : l[i].1 < P.length
    · rw [if_pos c]
      obtain ⟨y0, hy⟩ := w2.1 118 6 (by decide)
      obtain ⟨y, q1, q2⟩ := c_271 (k := l[i].1) (w := l[i].2) hN ho (rcH_169 (L := L) (R := R) (tl := tl) w2 hh2 hl h5 rfl (fun j hj => hg j hj)) hy c (by omega)
      have st2 : ∀ o, fg_285_56 N (fg_285_7 N K) (.ref 118) (.ref 169) (nI i) (rcI (ru P l[i].1 l[i].2)) (fx (vup (vup V 121 7 (.int (nI P.length))) 118 6 (.int y)) (iup I 122 g) L R ++ tl) = o → fg_285_7 N (K + 1) (.ref 118) (.ref 169) (nI i) (fx V I L R ++ tl) = o := fun o h => st1 o (ev_f (nI_ge c (by omega)) (ev_i rfl (ev_cI q1 h)))
      have w3 : wt (vup (vup V 121 7 (.int (nI P.length))) 118 6 (.int y)) := wt_i w2 (by decide)
      have f3 : frZ 169 V (vup (vup V 121 7 (.int (nI P.length))) 118 6 (.int y)) I (iup I 122 g) := frZ_t f2 ⟨fun a j p q r s => vup_o (fun e => r e.1), fun _ _ _ _ _ _ => rfl, fun _ => w3⟩
      cases er : ru P l[i].1 l[i].2 with
      | none =>
        rw [er] at st2
        refine ⟨_, _, st2 _ ?_, fun Q e => absurd e (by simp), f3, rfl, rfl, rfl⟩
        apply hd_285_56
        exact ev_f (fun e => e rfl) rfl
      | some cc =>
        rw [er] at st2
        have hR := ru_R ho c er
        have hne := rcI_ne hl hR
        obtain ⟨W, J, a1, a2, F1, a4, a5⟩ := c_282_169 (L := L) (R := R) (tl := tl) (V := vup (vup V 121 7 (.int (nI P.length))) 118 6 (.int y)) (I := iup I 122 g) hN ho w3 hl hh2 h5 rfl (fun j hj => hg j hj) c hR (fun e => congrArg Value.int (q2 cc.2 (by rw [er]; exact congrArg some (Prod.ext e rfl))))
        obtain ⟨o1, o2⟩ := ru_len ho c er
        have k2 : W 118 2 = V 118 2 := F1 118 2 (by decide) (by decide)
        have k9 : J 119 = I 119 := a4 119 (by decide) (by decide)
        have k0 : J 120 = I 120 := a4 120 (by decide) (by decide)
        obtain ⟨W2, J2, z1, z2, z3, z4⟩ := ih (i + 1) K (rp P l[i].1 (rMid P l[i].1 cc)) W J (by omega) (by omega) o1 (by omega) (a5 w3) a2 ((F1 118 5 (by decide) (by decide)).trans h5) ⟨k2.trans hr.1, by rw [k9, k0]; exact hr.2⟩
        refine ⟨W2, J2, st2 _ ?_, z2, frZ_t f3 (frZ_t ⟨fun a j p q r s => F1 a j p q, fun y p q r s t => a4 y p q, a5⟩ z3), z4.1.trans k2, z4.2.1.trans k9, z4.2.2.trans k0⟩
        apply hd_285_56
        rw [nI_1]
        exact ev_t hne (ev_b (rdR rfl) (ev_b r1 (ev_i rfl (ev_cV a1 z1))))
    · rw [if_neg c]
      refine ⟨_, _, st1 _ (ev_t (nI_le (by omega) (by omega)) ?_), fun Q e => absurd e (by simp), f2, rfl, rfl, rfl⟩
      apply hd_285_56
      exact ev_f (fun e => e rfl) rfl
theorem c_285_169 {V : Nat → Nat → Value} {I : Nat → Nat → Int32} {L : Nat → Nat → Int64} {R : Nat → Nat → Option Nat} {tl : am_H} {N : Nat} {P : xT} {l : List (Nat × Nat)} (hN : 100 < N) (hl60 : l.length ≤ 60) (hlb : ∀ x, x ∈ l → x.1 < 60 ∧ x.2 < 9) (ho : okP P) (hl : P.length ≤ 60) (hw : wt V) (hh : hold V I 169 0 0 P) (hr : rwZ V I l) : ∃ W J, fm_285 N (.ref 118) (.ref 169) (fx V I L R ++ tl) = some (.inl (some (.int (bI (gov l P).isSome)), fx W J L R ++ tl)) ∧ (∀ Q, gov l P = some Q → hold W J 169 0 0 Q ∧ okP Q ∧ Q.length ≤ 60) ∧ frZ 169 V W I J ∧ frU2 V W I J := by
  have w1 : wt (vup V 118 5 (.ref 169)) := wt_o (by decide) (by decide) hw
  obtain ⟨W, J, z1, z2, z3, z4⟩ := c_285l_169 (L := L) (R := R) (tl := tl) hN hl60 hlb l.length 0 N P (vup V 118 5 (.ref 169)) I (by omega) (by omega) ho hl w1 hh rfl hr
  refine ⟨W, J, ?_, z2, frZ_t ⟨fun a j p q r s => vup_o (fun e => r e.1), fun _ _ _ _ _ _ => rfl, fun _ => w1⟩ z3, z4⟩
  apply hm_285
  apply hd_285_0
  exact ev_b qp_118_5 z1
