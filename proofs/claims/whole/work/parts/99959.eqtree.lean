/-! ===== equal: the trees made simple, in the class ===== -/
theorem hd_287_191 {N : Nat} {s0 : Int32} {h : am_H} {r_ : Option am_O} (k_ : some (.inl (some (.int s0), h)) = r_) : fg_287_191 N s0 h = r_ := k_
theorem hd_287_176 {N : Nat} {x0 : Value} {x3 : Value} {x4 : Value} {h : am_H} {r_ : Option am_O} (k_ : (if am_pOk 11 x0 h then am_cI true (fm_296 N x0 x3 x4 h) (fun v2 h3 => (if v2 = 0 then (fg_287_191 N 2 h3) else (fg_287_191 N 0 h3))) else none) = r_) : fg_287_176 N x0 x3 x4 h = r_ := k_
theorem hd_287_105 {N : Nat} {x0 : Value} {x3 : Value} {x4 : Value} {h : am_H} {r_ : Option am_O} (k_ : ((am_vR (am_pG 2825 x0 h)).bind fun v1 => ((am_vR (am_pG 2831 x0 h)).bind fun v3 => (if am_pOk 10 v1 h then am_cI true (fm_293 N v1 x3 v3 h) (fun v6 h7 => (if v6 = 0 then (fg_287_176 N x0 x3 x4 h7) else ((am_vR (am_pG 2825 x0 h7)).bind fun v10 => ((am_vR (am_pG 2832 x0 h7)).bind fun v12 => (if am_pOk 10 v10 h7 then am_cI true (fm_293 N v10 x4 v12 h7) (fun v15 h16 => (if v15 = 0 then (fg_287_176 N x0 x3 x4 h16) else ((am_vR (am_pG 2824 x0 h16)).bind fun v19 => ((am_vR (am_pG 2831 x0 h16)).bind fun v21 => (if am_pOk 5 v19 h16 then am_cV true (fm_269 N v19 v21 0 h16) (fun h25 => ((am_vR (am_pG 2824 x0 h25)).bind fun v27 => ((am_vR (am_pG 2832 x0 h25)).bind fun v29 => (if am_pOk 5 v27 h25 then am_cV true (fm_269 N v27 v29 0 h25) (fun h33 => ((am_vR (am_pG 2831 x0 h33)).bind fun v35 => ((am_vR (am_pG 2832 x0 h33)).bind fun v37 => (if am_pOk 3 v35 h33 then am_cI true (fm_86 N v35 v37 h33) (fun v40 h41 => (if v40 = 0 then (fg_287_176 N x0 x3 x4 h41) else some (.inl (some (.int 1), h41)))) else none)))) else none)))) else none))))) else none))))) else none))) = r_) : fg_287_105 N x0 x3 x4 h = r_ := k_
theorem hd_287_104 {N : Nat} {s0 : Int32} {h : am_H} {r_ : Option am_O} (k_ : some (.inl (some (.int s0), h)) = r_) : fg_287_104 N s0 h = r_ := k_
theorem hd_287_53 {N : Nat} {x0 : Value} {x3 : Value} {x4 : Value} {h : am_H} {r_ : Option am_O} (k_ : ((am_vI (am_pG 769 x3 h)).bind fun v1 => (if ¬ v1 = 3 then (fg_287_105 N x0 x3 x4 h) else ((am_vI (am_pG 769 x4 h)).bind fun v4 => (if ¬ v4 = 3 then (fg_287_105 N x0 x3 x4 h) else ((am_vI (am_pG 770 x3 h)).bind fun v7 => ((am_vI (am_pG 770 x4 h)).bind fun v9 => (if ¬ v7 = v9 then (fg_287_105 N x0 x3 x4 h) else ((am_vR (am_pG 2825 x0 h)).bind fun v12 => ((am_vR (am_pG 2830 x0 h)).bind fun v14 => (if am_pOk 10 v12 h then am_cI true (fm_290 N v12 x3 x4 v14 h) (fun v17 h18 => (if v17 = 0 then (fg_287_104 N 1 h18) else (fg_287_104 N 0 h18))) else none)))))))))) = r_) : fg_287_53 N x0 x3 x4 h = r_ := k_
theorem hd_287_52 {N : Nat} {s0 : Int32} {h : am_H} {r_ : Option am_O} (k_ : some (.inl (some (.int s0), h)) = r_) : fg_287_52 N s0 h = r_ := k_
theorem hd_287_0 {N : Nat} {x0 : Value} {x1 : Int32} {x2 : Int32} {h : am_H} {r_ : Option am_O} (k_ : (if am_pOk 11 x0 h then am_cR true (fm_63 x0 x1 h) (fun v2 h3 => (if am_pOk 11 x0 h3 then am_cR true (fm_63 x0 x2 h3) (fun v6 h7 => ((am_vI (am_pG 769 v2 h7)).bind fun v9 => (if ¬ v9 = 2 then (fg_287_53 N x0 v2 v6 h7) else ((am_vI (am_pG 769 v6 h7)).bind fun v12 => (if ¬ v12 = 2 then (fg_287_53 N x0 v2 v6 h7) else ((am_vR (am_pG 2825 x0 h7)).bind fun v15 => ((am_vR (am_pG 2830 x0 h7)).bind fun v17 => (if am_pOk 10 v15 h7 then am_cI true (fm_288 N v15 v2 v6 v17 h7) (fun v20 h21 => (if v20 = 0 then (fg_287_52 N 1 h21) else (fg_287_52 N 0 h21))) else none)))))))) else none)) else none) = r_) : fg_287_0 N x0 x1 x2 h = r_ := k_
theorem hm_287 {N : Nat} {y0 : Value} {y1 : Int32} {y2 : Int32} {h : am_H} {r_ : Option am_O} (k_ : fg_287_0 N y0 y1 y2 h = r_) : fm_287 N y0 y1 y2 h = r_ := k_
theorem hold_c {V W : Nat → Nat → Value} {I J : Nat → Nat → Int32} {A kd ln : Nat} {P : xT} (hv : ∀ j, W A j = V A j) (hi : J (A + 1) = I (A + 1)) (h : hold V I A kd ln P) : hold W J A kd ln P := by
  obtain ⟨h1, h2, h3, h4, h5⟩ := h
  refine ⟨(hv 1).trans h1, (hv 2).trans h2, (hv 3).trans h3, (hv 4).trans h4, ?_⟩
  rw [hi]
  exact h5
theorem ext_x {A B : xT} (hl : A.length = B.length) (h : ∀ k, k < A.length → xS A k = xS B k ∧ xV A k = xV B k) : A = B := by
  refine List.ext_getElem? (fun k => ?_)
  by_cases c : k < A.length
  · rw [xS_at c, xS_at (by omega), (h k c).1, (h k c).2]
  · rw [List.getElem?_eq_none (by omega), List.getElem?_eq_none (by omega)]
theorem okP_20 {P : xT} (ho : okP P) {k : Nat} (hk : k < P.length) : xS P k ≤ 20 := (nd_at ho hk).1
theorem smP_eq {A B : xT} (ha : okP A) (hb : okP B) : smP 0 0 A.length (fun k => nI (xS A k)) (fun k => xV A k) 0 0 B.length (fun k => nI (xS B k)) (fun k => xV B k) ↔ A = B := by
  refine ⟨fun h => ?_, fun h => by rw [h]; exact ⟨rfl, rfl, rfl, fun _ _ => ⟨rfl, rfl⟩⟩⟩
  obtain ⟨-, -, hl, hk⟩ := h
  refine ext_x hl (fun k hk1 => ?_)
  obtain ⟨e1, e2⟩ := hk k hk1
  have x1 := okP_20 ha hk1
  have x2 := okP_20 hb (k := k) (by omega)
  exact ⟨(nI_eq (by omega) (by omega)).mp e1, e2⟩
/-- two births have the same simple tree -/
def eqP (T T' : xT → Prop) : Prop := ∃ Q Q', T Q ∧ T' Q' ∧ smp 60 Q = smp 60 Q'
set_option maxRecDepth 100000 in
set_option maxHeartbeats 4000000 in
theorem eqT_c {V : Nat → Nat → Value} {I : Nat → Nat → Int32} {L : Nat → Nat → Int64} {R : Nat → Nat → Option Nat} {tl : am_H} {N a a' : Nat} {T T' : xT → Prop} (hN : 5000 < N) (w : wt V) (hR : rPl R) (o : ∀ Q, T Q → okP Q ∧ Q.length ≤ 60) (o' : ∀ Q, T' Q → okP Q ∧ Q.length ≤ 60) (u : ∀ Q Q', T Q → T Q' → Q = Q') (u' : ∀ Q Q', T' Q → T' Q' → Q = Q') (h : cTr N tl T a 167) (h' : cTr N tl T' a' 169) : ∃ W J R' E, fg_287_105 N (.ref 0) (.ref (269 + a)) (.ref (269 + a')) (fx V I L R ++ tl) = (if E = true then some (.inl (some (.int 1), fx W J L R' ++ tl)) else fg_287_176 N (.ref 0) (.ref (269 + a)) (.ref (269 + a')) (fx W J L R' ++ tl)) ∧ (E = true ↔ eqP T T') ∧ keep V W I J ∧ (∀ y, y ≠ 140 → R' y = R y) ∧ rPl R' := by
  obtain ⟨W1, J1, R1, b1, e1, g1, d1, f1, r1, p1⟩ := h V I L R w hR
  have k1 := keep_Cx (.inl rfl) f1
  cases b1 with
  | false =>
    refine ⟨W1, J1, R1, false, ?_, ⟨fun e => Bool.noConfusion e, fun ⟨Q, _, h, _⟩ => g1.mpr ⟨Q, h⟩⟩, k1, r1, p1⟩
    apply hd_287_105
    exact ev_b (rdR rfl) (ev_b (rdR rfl) (ev_i rfl (ev_cI e1 (ev_t rfl rfl))))
  | true =>
    obtain ⟨Q, hQ⟩ := g1.mp rfl
    have h1 := d1 Q hQ
    obtain ⟨z1, z2⟩ := o Q hQ
    obtain ⟨W2, J2, R2, b2, e2, g2, d2, f2, r2, p2⟩ := h' W1 J1 L R1 (f1.2.2 w) p1
    have k2 := keep_t k1 (keep_Cx (.inr rfl) f2)
    have r12 : ∀ y, y ≠ 140 → R2 y = R y := fun y n => (r2 y n).trans (r1 y n)
    cases b2 with
    | false =>
      refine ⟨W2, J2, R2, false, ?_, ⟨fun e => Bool.noConfusion e, fun ⟨_, Q', _, h, _⟩ => g2.mpr ⟨Q', h⟩⟩, k2, r12, p2⟩
      apply hd_287_105
      exact ev_b (rdR rfl) (ev_b (rdR rfl) (ev_i rfl (ev_cI e1 (ev_f (by decide) (ev_b (rdR rfl) (ev_b (rdR rfl) (ev_i rfl (ev_cI e2 (ev_t rfl rfl)))))))))
    | true =>
      obtain ⟨Q', hQ'⟩ := g2.mp rfl
      obtain ⟨z3, z4⟩ := o' Q' hQ'
      have h2 := d2 Q' hQ'
      have h12 : hold W2 J2 167 0 0 Q := hold_c (fun j => f2.1 167 j (by omega) (by omega) (by omega) (by omega) (by omega)) (f2.2.1 168 (by omega) (by omega) (by omega) (by omega)) h1
      have w2 := k2.2.2 w
      obtain ⟨W3, J3, e3, h3, f3, v3, -⟩ := c_269_167 (L := L) (R := R2) (tl := tl) (N := N) (kp := 0) (by omega) (by omega) z1 z2 w2 h12
      have h23 : hold W3 J3 169 0 0 Q' := hold_c (fun j => f3.1 169 j (by omega) (by omega) (by omega) (by omega)) (f3.2.1 170 (by omega) (by omega) (by omega) (by omega) (by omega)) h2
      obtain ⟨W4, J4, e4, h4, f4, v4, -⟩ := c_269_169 (L := L) (R := R2) (tl := tl) (N := N) (kp := 0) (by omega) (by omega) z3 z4 (f3.2.2 w2) h23
      have h34 : hold W4 J4 167 0 0 (smp 60 Q) := hold_c (fun j => f4.1 167 j (by omega) (by omega) (by omega) (by omega)) (f4.2.1 168 (by omega) (by omega) (by omega) (by omega) (by omega)) h3
      have k4 := keep_t k2 (keep_t (keep_Z (.inl rfl) f3 (v3 rfl)) (keep_Z (.inr rfl) f4 (v4 rfl)))
      have w4 := k4.2.2 w
      obtain ⟨s1, s2⟩ := smp_ok 60 Q z1
      obtain ⟨s3, s4⟩ := smp_ok 60 Q' z3
      obtain ⟨r, m1, m2⟩ := c_86m (N := N) (h := fx W4 J4 L R2 ++ tl) (by omega) (prF_167 (L := L) (R := R2) (tl := tl) w4 h34.1 h34.2.1 h34.2.2.1 h34.2.2.2.1 W4 J4 L R2 (fun _ => rfl) rfl) (prF_169 (L := L) (R := R2) (tl := tl) w4 h4.1 h4.2.1 h4.2.2.1 h4.2.2.2.1 W4 J4 L R2 (fun _ => rfl) rfl) (by show (smp 60 Q).length * 2 ≤ 120; omega) (by show (smp 60 Q').length * 2 ≤ 120; omega) (itm_T (by decide) h34.2.2.2.2 laySV) (itm_T (by decide) h4.2.2.2.2 laySV) (sound_T s1 (by omega) laySV) (sound_T s3 (by omega) laySV)
      rw [smP_eq s1 s3] at m2
      have st0 : ∀ o, (if r = 0 then (fg_287_176 N (.ref 0) (.ref (269 + a)) (.ref (269 + a')) (fx W4 J4 L R2 ++ tl)) else some (.inl (some (.int 1), fx W4 J4 L R2 ++ tl))) = o → fg_287_105 N (.ref 0) (.ref (269 + a)) (.ref (269 + a')) (fx V I L R ++ tl) = o := fun o k_ => by
        apply hd_287_105
        exact ev_b (rdR rfl) (ev_b (rdR rfl) (ev_i rfl (ev_cI e1 (ev_f (by decide) (ev_b (rdR rfl) (ev_b (rdR rfl) (ev_i rfl (ev_cI e2 (ev_f (by decide) (ev_b (rdR rfl) (ev_b (rdR rfl) (ev_i rfl (ev_cV e3 (ev_b (rdR rfl) (ev_b (rdR rfl) (ev_i rfl (ev_cV e4 (ev_b (rdR rfl) (ev_b (rdR rfl) (ev_i rfl (ev_cI m1 k_)))))))))))))))))))))
      rcases m2 with ⟨x1, x2⟩ | ⟨x1, x2⟩
      · exact ⟨W4, J4, R2, true, st0 _ (ev_f (by rw [x1]; decide) rfl), ⟨fun _ => ⟨Q, Q', hQ, hQ', x2⟩, fun _ => rfl⟩, k4, r12, p2⟩
      · refine ⟨W4, J4, R2, false, st0 _ (ev_t x1 rfl), ⟨fun e => Bool.noConfusion e, fun ⟨A, B, y1, y2, y3⟩ => ?_⟩, k4, r12, p2⟩
        rw [u A Q y1 hQ, u' B Q' y2 hQ'] at y3
        exact absurd y3 x2
