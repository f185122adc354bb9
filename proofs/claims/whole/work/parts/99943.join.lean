/-! ===== trees out of code: joining, in the reference ===== -/
theorem tk_app : ∀ (l r : List (Nat × Nat)) (n : Nat), isF n l → tk n (l ++ r) = l.length := by
  intro l
  induction l with
  | nil =>
    intro r n h
    cases n with
    | zero => rw [tk_0]; rfl
    | succ n => exact absurd h id
  | cons x l ih =>
    intro r n h
    cases n with
    | zero => exact absurd h id
    | succ n =>
      rw [List.cons_append, tk_c, ih r _ h, List.length_cons]
      omega
def jn1 (a : Nat) (T : xT) : xT := (a, 0) :: wrT T
def jn2 (a : Nat) (S T : xT) : xT := (a, 0) :: (wrT S ++ wrT T)
/-- what any tree of the heaps is -/
theorem okV_i {T : xT} (h : okV T) : isF 1 (sl T) ∧ 0 < T.length ∧ (∀ k, k < T.length → xS T k ≤ 20) := by
  have hF : isF 1 (sl T) := okF_F _ _ h.2
  refine ⟨hF, ?_, fun k hk => ?_⟩
  · cases T with
    | nil => exact absurd hF id
    | cons x r => exact Nat.succ_pos _
  · have e2 := sl_at hk
    have m : (xS T k, 0) ∈ (sl T).drop k := by rw [e2]; exact List.mem_cons_self ..
    exact okF_20 _ _ h.2 _ (List.mem_of_mem_drop m)
theorem k20_l {T : xT} : (∀ k, k < T.length → xS T k ≤ 20) ↔ ∀ x, x ∈ T → x.1 ≤ 20 := by
  refine ⟨fun h x hx => ?_, fun h k hk => h _ (List.mem_of_getElem? (xS_at hk))⟩
  obtain ⟨i, hi, e⟩ := List.mem_iff_getElem.mp hx
  have := xS_at hi
  rw [List.getElem?_eq_getElem hi] at this
  have e2 := Option.some.inj this
  have := h i hi
  rw [← e, e2]
  exact this
theorem tru_01 (x : Nat) : truN x = 0 ∨ truN x = 1 := by unfold truN; split; exact .inr rfl; exact .inl rfl
theorem wrT_i {T : xT} (hF : isF 1 (sl T)) (h0 : 0 < T.length) (hk : ∀ x, x ∈ T → x.1 ≤ 20) : isF 1 (sl (wrT T)) ∧ 0 < (wrT T).length ∧ (∀ x, x ∈ wrT T → x.1 ≤ 20) ∧ truN (xS (wrT T) 0) = 0 ∧ (wrT T).length ≤ T.length + 3 := by
  unfold wrT
  by_cases c : truN (xS T 0) = 0
  · rw [if_pos c]
    exact ⟨hF, h0, hk, c, by omega⟩
  · rw [if_neg c]
    refine ⟨?_, Nat.succ_pos _, fun x hx => ?_, rfl, ?_⟩
    · show isF (0 + 3) (sl (T ++ [(0, 1), (0, 0)]))
      rw [sl_app]
      exact isF_app (sl T) _ 1 2 hF trivial
    · cases hx with
      | head => exact Nat.le_refl 20
      | tail _ hx =>
        rcases List.mem_append.mp hx with h | h
        · exact hk x h
        · cases h with
          | head => exact Nat.zero_le _
          | tail _ h => cases h with
            | head => exact Nat.zero_le _
            | tail _ h => cases h
    · rw [List.length_cons, List.length_append]; show T.length + 2 + 1 ≤ _; omega
theorem ok_j1 {a : Nat} {T : xT} (ha : arN a = 1) (ht : twN a 0 = 0) (h19 : a ≠ 19) (hw : truN (xS (wrT T) 0) = 0) (h : okV (jn1 a T)) : okV (wrT T) := by
  obtain ⟨h1, h2⟩ := h
  have h1 : (wrT T).length + 1 ≤ 60 := h1
  refine ⟨by omega, ?_⟩
  have h6 : okF (kid a (truN (xS (jn1 a T) 0), 1, 0) ++ []) (sl (wrT T)) := h2.2.2.2.2.2
  have ek : kid a (truN (xS (jn1 a T) 0), 1, 0) = [(0, 2, 0)] := by
    unfold kid
    rw [ha]
    show [(twN a 0, 2, if a = 19 ∧ 0 = 1 then 1 else 0)] = _
    rw [ht, if_neg (fun e => h19 e.1)]
  rw [ek] at h6
  rw [hw]
  exact okF_dn h6 rfl (by show 1 ≤ 2; omega) rfl
theorem ok_j2 {a : Nat} {S T : xT} (ha : arN a = 2) (ht : twN a 0 = 0 ∧ twN a 1 = 0) (h19 : a ≠ 19) (hF : isF 1 (sl (wrT S))) (hs : truN (xS (wrT S) 0) = 0) (hw : truN (xS (wrT T) 0) = 0) (h : okV (jn2 a S T)) : okV (wrT S) ∧ okV (wrT T) := by
  obtain ⟨h1, h2⟩ := h
  have h1 : (wrT S ++ wrT T).length + 1 ≤ 60 := h1
  rw [List.length_append] at h1
  have h6 : okF (kid a (truN (xS (jn2 a S T) 0), 1, 0) ++ []) (sl (wrT S ++ wrT T)) := h2.2.2.2.2.2
  have ek : kid a (truN (xS (jn2 a S T) 0), 1, 0) = [(0, 2, 0)] ++ [(0, 2, 0)] := by
    unfold kid
    rw [ha]
    show [(twN a 0, 2, if a = 19 ∧ 0 = 1 then 1 else 0), (twN a 1, 2, if a = 19 ∧ 1 = 1 then 1 else 0)] = _
    rw [ht.1, ht.2, if_neg (fun e => h19 e.1), if_neg (fun e => h19 e.1)]
    rfl
  rw [ek, List.append_nil, sl_app] at h6
  obtain ⟨g1, g2⟩ := okF_spl _ _ _ h6
  have et : tk [(0, 2, 0)].length (sl (wrT S) ++ sl (wrT T)) = (sl (wrT S)).length := tk_app _ _ 1 hF
  rw [et, List.take_left'] at g1
  · rw [et, List.drop_left'] at g2
    · exact ⟨⟨by omega, by rw [hs]; exact okF_dn g1 rfl (by show 1 ≤ 2; omega) rfl⟩, ⟨by omega, by rw [hw]; exact okF_dn g2 rfl (by show 1 ≤ 2; omega) rfl⟩⟩
    · rfl
  · rfl
/-- what the heaps' work touches -/
def frTo (V W : Nat → Nat → Value) (I J : Nat → Nat → Int32) : Prop := (∀ a j, ¬ (a = 174 ∧ (j = 13 ∨ j = 14 ∨ j = 121)) → W a j = V a j) ∧ (∀ y, y ≠ 186 → y ≠ 187 → y ≠ 194 → y ≠ 195 → y ≠ 196 → y ≠ 250 → y ≠ 251 → y ≠ 252 → J y = I y) ∧ (wt V → wt W)
theorem frTo_r {V : Nat → Nat → Value} {I : Nat → Nat → Int32} : frTo V V I I := ⟨fun _ _ _ => rfl, fun _ _ _ _ _ _ _ _ _ => rfl, id⟩
theorem frTo_t {V W X : Nat → Nat → Value} {I J K : Nat → Nat → Int32} (h : frTo V W I J) (g : frTo W X J K) : frTo V X I K := ⟨fun a j n => (g.1 a j n).trans (h.1 a j n), fun y a b c d e x z w => (g.2.1 y a b c d e x z w).trans (h.2.1 y a b c d e x z w), fun w => g.2.2 (h.2.2 w)⟩
theorem frTo_h {V : Nat → Nat → Value} {I J : Nat → Nat → Int32} {q : Nat} (h : hfr q I J) : frTo V V I J := ⟨fun _ _ _ => rfl, fun y _ _ _ _ _ a b c => h.1 y a b c, id⟩
theorem frTo_c {V W : Nat → Nat → Value} {I J : Nat → Nat → Int32} (h : frHc V W I J) : frTo V W I J := ⟨fun a j n => h.1 a j (fun e => n ⟨e.1, by have := e.2; omega⟩), fun y a b c d e _ _ _ => h.2.1 y a b c d e, h.2.2⟩
set_option maxRecDepth 100000 in
set_option maxHeartbeats 4000000 in
theorem w560 {V : Nat → Nat → Value} {I : Nat → Nat → Int32} {L : Nat → Nat → Int64} {R : Nat → Nat → Option Nat} {tl : am_H} {N K q p : Nat} {T : xT} {x1 x2 x3 : Int32} (hN : 400 < N) (hp : q < p) (hp8 : p ≤ 8) (h121 : V 174 121 = .int (nI p)) (h : hpL I q T) (hT : okV T) : (¬ okV (wrT T) → ∃ W J, fg_560_15 N (K + 1) (.ref 174) x1 x2 x3 (nI q) (fx V I L R ++ tl) = some (.inl (some (.int 0), fx W J L R ++ tl)) ∧ frTo V W I J) ∧ (okV (wrT T) → ∃ W J, fg_560_15 N (K + 1) (.ref 174) x1 x2 x3 (nI q) (fx V I L R ++ tl) = fg_560_15 N K (.ref 174) x1 x2 x3 (nI (q + 1)) (fx W J L R ++ tl) ∧ hpL J q (wrT T) ∧ (∀ r S, r ≠ q → hpL I r S → hpL J r S) ∧ W 174 121 = .int (nI p) ∧ frTo V W I J) := by
  obtain ⟨i1, i2, i3⟩ := okV_i hT
  have i4 := k20_l.mp i3
  obtain ⟨w1, w2, w3, w4, w5⟩ := wrT_i i1 i2 i4
  have t60 := hT.1
  obtain ⟨J1, e1, p1, f1⟩ := h561 (V := V) (L := L) (R := R) (tl := tl) hN (by omega) h i2 (i3 0 i2) (nI q) rfl
  have el : wrTl T = wrT T := by unfold wrTl; rw [if_pos (by omega)]
  rw [el] at p1
  obtain ⟨W2, J2, b, e2, g2, d2, z2, f2⟩ := h563 (V := V) (L := L) (R := R) (tl := tl) hN (by omega) p1 w2 (k20_l.mpr w3) w1 (nI q) rfl
  have st : ∀ o, (if ¬ bI b = 0 then (fg_560_15 N K (.ref 174) x1 x2 x3 (nI (q + 1)) (fx W2 J2 L R ++ tl)) else some (.inl (some (.int 0), fx W2 J2 L R ++ tl))) = o → fg_560_15 N (K + 1) (.ref 174) x1 x2 x3 (nI q) (fx V I L R ++ tl) = o := fun o k_ => by
    apply hd_560_15
    rw [nI_1]
    exact ev_b (rdI h121) (ev_f (nI_ge hp (by omega)) (ev_i rfl (ev_cV e1 (ev_i rfl (ev_cI e2 k_)))))
  have F := frTo_t (frTo_h (V := V) f1) (frTo_c f2)
  refine ⟨fun hn => ⟨W2, J2, st _ ?_, F⟩, fun hy => ⟨W2, J2, st _ ?_, frHc_h f2 p1, fun r S hr hS => frHc_h f2 (hfr_h f1 hr hS), (f2.1 174 121 (by decide)).trans h121, F⟩⟩
  · have : b = false := by
      cases b with
      | false => rfl
      | true => exact absurd (g2.mp rfl) hn
    subst this
    exact ev_f (fun h => h rfl) rfl
  · have : b = true := g2.mpr hy
    subst this
    exact ev_t (by decide) rfl
set_option maxRecDepth 100000 in
set_option maxHeartbeats 4000000 in
theorem e560 {V : Nat → Nat → Value} {I : Nat → Nat → Int32} {L : Nat → Nat → Int64} {R : Nat → Nat → Option Nat} {tl : am_H} {N q a : Nat} {Q : xT} (hN : 400 < N) (hq : q < 8) (h : hpL I q Q) (h0 : 0 < Q.length) (hk : ∀ x, x ∈ Q → x.1 ≤ 20) (hF : isF 1 (sl Q)) : ∃ W J b, fg_560_243 N (.ref 174) (nI q) (fx V I L R ++ tl) = some (.inl (some (.int (bI b)), fx W J L R ++ tl)) ∧ (b = true ↔ okV Q) ∧ (∀ r S, hpL I r S → hpL J r S) ∧ W 174 121 = .int (nI (q + 1)) ∧ frTo V W I J := by
  obtain ⟨W2, J2, b, e2, g2, d2, z2, f2⟩ := h563 (V := vup V 174 121 (.int (nI (q + 1)))) (L := L) (R := R) (tl := tl) hN (by omega) h h0 (k20_l.mpr hk) hF (nI q) rfl
  refine ⟨W2, J2, b, ?_, g2, fun r S hS => frHc_h f2 hS, (f2.1 174 121 (by decide)).trans rfl, frTo_t ⟨fun a j n => vup_o (fun e => n ⟨e.1, .inr (.inr e.2)⟩), fun _ _ _ _ _ _ _ _ _ => rfl, fun w => wt_i w (by decide)⟩ (frTo_c f2)⟩
  apply hd_560_243
  rw [nI_1]
  exact ev_b qp_174_121 (ev_i rfl (ev_cI e2 (ev_i (bI_fit b) rfl)))
set_option maxRecDepth 100000 in
set_option maxHeartbeats 4000000 in
theorem h560_1 {V : Nat → Nat → Value} {I : Nat → Nat → Int32} {L : Nat → Nat → Int64} {R : Nat → Nat → Option Nat} {tl : am_H} {N a q : Nat} {S : xT} (hN : 400 < N) (ha : a = 7 ∨ a = 8) (hq : q < 8) (h121 : V 174 121 = .int (nI (q + 1))) (h : hpL I q S) (hS : okV S) (x : Int32) (hx : x = nI a) : ∃ W J b, fm_560 N (.ref 174) x (fx V I L R ++ tl) = some (.inl (some (.int (bI b)), fx W J L R ++ tl)) ∧ (b = true ↔ okV (jn1 a S)) ∧ (b = true → hpL J q (jn1 a S) ∧ (∀ r T, r < q → hpL I r T → hpL J r T) ∧ W 174 121 = .int (nI (q + 1))) ∧ frTo V W I J := by
  subst hx
  have a20 : a ≤ 20 := by omega
  have ar : arN a = 1 := by rcases ha with r | r <;> subst r <;> rfl
  have tw : twN a 0 = 0 := by rcases ha with r | r <;> subst r <;> rfl
  obtain ⟨i1, i2, i3⟩ := okV_i hS
  obtain ⟨w1, w2, w3, w4, w5⟩ := wrT_i i1 i2 (k20_l.mp i3)
  have t60 := hS.1
  obtain ⟨N, rfl⟩ : ∃ m, N = m + 2 := ⟨N - 2, by omega⟩
  obtain ⟨c1, c2⟩ := w560 (V := V) (L := L) (R := R) (tl := tl) (N := N + 2) (K := N + 1) (x1 := nI a) (x2 := nI 1) (x3 := nI q) hN (show q < q + 1 by omega) (by omega) h121 h hS
  have st : ∀ o, fg_560_15 (N + 2) (N + 2) (.ref 174) (nI a) (nI 1) (nI q) (nI q) (fx V I L R ++ tl) = o → fm_560 (N + 2) (.ref 174) (nI a) (fx V I L R ++ tl) = o := fun o k_ => by
    apply hm_560
    apply hd_560_0
    refine ev_cI (ar_e a a20 _) (ev_b (rdI h121) ?_)
    rw [ar, show nI (q + 1) - nI 1 = nI q from nI_sub (b := 1) (by omega)]
    exact k_
  by_cases cw : okV (wrT S)
  case neg =>
    obtain ⟨W, J, e, f⟩ := c1 cw
    exact ⟨W, J, false, st _ e, ⟨fun e => Bool.noConfusion e, fun e => absurd (ok_j1 ar tw (by omega) w4 e) cw⟩, fun e => Bool.noConfusion e, f⟩
  obtain ⟨W, J, e, p, lv, z, f⟩ := c2 cw
  have l60 := cw.1
  obtain ⟨J1, K', g1, p1, z1, f1⟩ := sh_560 (V := W) (L := L) (R := R) (tl := tl) (N := N + 2) (x1 := nI a) (x2 := nI 1) (q := q) (T := wrT S) (by omega) (by omega) (wrT S).length (N + 2) J (Nat.le_refl _) (by omega) p.1 (fun i x e _ => p.2.2 i x e) (fun i x e hi => absurd (List.getElem?_eq_some_iff.mp e).1 (by omega))
  obtain ⟨J2, p2, f2, g2⟩ := zh_560 (V := W) (L := L) (R := R) (tl := tl) (N := N + 2) (K := K') (a := a) (x1 := nI a) (x2 := nI 1) (q := q) (T := wrT S) (by omega) (by omega) (by rw [z1]; exact p.1) rfl p1
  have kj : ∀ x, x ∈ jn1 a S → x.1 ≤ 20 := fun x hx => by
    cases hx with
    | head => exact a20
    | tail _ hx => exact w3 x hx
  have Fj : isF 1 (sl (jn1 a S)) := by
    show isF (0 + arN a) (sl (wrT S))
    rw [ar]
    exact w1
  obtain ⟨W3, J3, b, e3, b3, l3, z3, f3⟩ := e560 (V := W) (L := L) (R := R) (tl := tl) (a := a) hN hq p2 (Nat.succ_pos _) kj Fj
  refine ⟨W3, J3, b, st _ ?_, b3, fun _ => ⟨l3 _ _ p2, fun r T hr hT => l3 _ _ (hfr_h f2 (by omega) (hfr_h f1 (by omega) (lv r T (by omega) hT))), z3⟩, frTo_t f (frTo_t (frTo_h (hfr_t f1 f2)) f3)⟩
  rw [e]
  apply hd_560_15
  refine ev_b (rdI z) (ev_t (nI_le (by omega) (by omega)) (ev_t (by decide) ?_))
  apply hd_560_74
  refine ev_b (rdR rfl) (ev_b ((qa_252 (by omega)).trans (congrArg some p.1)) (g1.trans (g2 _ ?_)))
  apply hd_560_184
  exact ev_t (by decide) e3
