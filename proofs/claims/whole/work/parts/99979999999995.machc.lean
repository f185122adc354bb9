/-! ===== read: machines, class ===== -/
theorem hd_50_22 {N : Nat} {K : Nat} {x0 : Value} {x1 : Int32} {x2 : Int32} {h : am_H} {r_ : Option am_O} (k_ : (if 4 ≤ x2 then some (.inl (none, h)) else ((am_vR (am_pG 2309 x0 h)).bind fun v2 => ((am_vI (am_pG 2306 x0 h)).bind fun v4 => ((am_pS 0 v2 ((4 * x1) + x2) v4 h).bind fun h6 => ((am_vR (am_pG 2308 x0 h6)).bind fun v8 => (if am_pOk 9 x0 h6 then am_cI true (fm_47 x0 0 9 h6) (fun v11 h12 => (if am_pOk 3 v8 h12 then am_cV true (fm_51 v8 x1 ((1 + x2)) v11 h12) (fun h16 => (fg_50_22 N K x0 x1 ((x2 + 1)) h16)) else none)) else none)))))) = r_) : fg_50_22 N (K + 1) x0 x1 x2 h = r_ := by rw [fg_50_22]; exact k_
theorem hd_50_0 {N : Nat} {x0 : Value} {x1 : Int32} {h : am_H} {r_ : Option am_O} (k_ : ((am_vR (am_pG 2308 x0 h)).bind fun v1 => (if am_pOk 9 x0 h then am_cI true (fm_43 N x0 h) (fun v4 h5 => (if am_pOk 3 v1 h5 then am_cI true (fm_41 N v1 v4 0 h5) (fun v8 h9 => (if am_pOk 9 x0 h9 then am_cI true (fm_42 x0 58 h9) (fun v12 h13 => (fg_50_22 N N x0 x1 0 h13)) else none)) else none)) else none)) = r_) : fg_50_0 N x0 x1 h = r_ := k_
theorem hm_50 {N : Nat} {y0 : Value} {y1 : Int32} {h : am_H} {r_ : Option am_O} (k_ : fg_50_0 N y0 y1 h = r_) : fm_50 N y0 y1 h = r_ := k_
theorem hd_58_2 {N : Nat} {K : Nat} {x0 : Value} {x1 : Int32} {h : am_H} {r_ : Option am_O} (k_ : ((am_vR (am_pG 2308 x0 h)).bind fun v1 => ((am_vI (am_pG 771 v1 h)).bind fun v3 => (if (4 * v3) ≤ x1 then some (.inl (some (.int (-1)), h)) else ((am_vR (am_pG 2308 x0 h)).bind fun v6 => (if am_pOk 3 v6 h then am_cI true (fm_54 v6 ((x1 / 4)) ((1 + (x1 - x1 / 4 * 4))) h) (fun v9 h10 => ((am_vR (am_pG 2308 x0 h10)).bind fun v12 => ((am_vI (am_pG 771 v12 h10)).bind fun v14 => (if v9 < v14 then (fg_58_2 N K x0 ((x1 + 1)) h10) else ((am_vR (am_pG 2309 x0 h10)).bind fun v17 => ((am_pA 0 v17 x1 h10).bind fun v19 => some (.inl (some (.int v19), h10)))))))) else none))))) = r_) : fg_58_2 N (K + 1) x0 x1 h = r_ := by rw [fg_58_2]; exact k_
theorem hd_58_0 {N : Nat} {x0 : Value} {h : am_H} {r_ : Option am_O} (k_ : (fg_58_2 N N x0 0 h) = r_) : fg_58_0 N x0 h = r_ := k_
theorem hm_58 {N : Nat} {y0 : Value} {h : am_H} {r_ : Option am_O} (k_ : fg_58_0 N y0 h = r_) : fm_58 N y0 h = r_ := k_

abbrev xM := List (Int32 × Nat)
def eg4 (T : Nat → Nat) : Nat → Nat → Nat ⊕ (Nat × Unit)
  | 0, b => .inr (b, ())
  | n + 1, b => if dgB (T b) = true then eg4 T n (b + 1) else .inl b
def mcTx (T : Nat → Nat) (p : Nat) : Nat ⊕ (Nat × (Int32 × Nat)) := sMt (csT T p) (fun q x => if T q = 58 then sMt (eg4 T 4 (q + 1)) (fun r _ => .inr (r, (x, q + 1))) else .inl q)
def mcSq (T : Nat → Nat) (m : Nat) : Nat → Nat → xM → Nat ⊕ xM
  | 0, p, _ => .inl p
  | f + 1, p, Q => sMt (mcTx T p) (fun q x => if q < m then (if T q = 59 then mcSq T m f (q + 1) (Q ++ [x]) else .inl q) else .inr (Q ++ [x]))
def prM (V : Nat → Nat → Value) (I : Nat → Nat → Int32) (T : Nat → Nat) (Q : xM) : Prop := V 167 3 = .int (nI Q.length) ∧ V 167 4 = .int 5 ∧ ∀ k x, Q[k]? = some x → I 168 (5 * k) = x.1 ∧ ∀ c, c < 4 → I 168 (5 * k + 1 + c) = nI (T (x.2 + c) - 48)
def stE (f : Nat → Int32) (Q : xM) : Prop := ∀ k x, Q[k]? = some x → ∀ c, c < 4 → f (4 * k + c) = nI (x.2 + c)
theorem c_50f {L : Nat → Nat → Int64} {R : Nat → Nat → Option Nat} {tl : am_H} {T : Nat → Nat} {m p N k s w : Nat} {V : Nat → Nat → Value} (hk : k < s) (hs : s ≤ 7) (hw : w ≤ m) (hp : p ≤ m) (h3 : V 167 3 = .int (nI s)) (h4 : V 167 4 = .int 5) : ∀ (t c K : Nat) (I : Nat → Nat → Int32), c + t = 4 → t < K → stC V I T m p (nI w) → ∃ J, fg_50_22 N K (.ref 2) (nI k) (nI c) (fx V I L R ++ tl) = some (.inl (none, fx V J L R ++ tl)) ∧ frCp V V I J ∧ stC V J T m p (nI w) := by
  intro t
  induction t with
  | zero =>
    intro c K I hc hK h
    obtain ⟨K, rfl⟩ : ∃ k, K = k + 1 := ⟨K - 1, by omega⟩
    exact ⟨I, hd_50_22 (ev_t (nI_le (a := 4) (by omega) (by omega)) rfl), frCp_r, h⟩
  | succ t ih =>
    intro c K I hc hK h
    obtain ⟨K, rfl⟩ : ∃ k, K = k + 1 := ⟨K - 1, by omega⟩
    obtain ⟨I1, eI1⟩ : ∃ X, X = iup I 4 (upd (I 4) (4 * k + c) (nI p)) := ⟨_, rfl⟩
    obtain ⟨I2, eI2⟩ : ∃ X, X = iup I1 168 (upd (I1 168) (5 * k + (1 + c)) 0) := ⟨_, rfl⟩
    have h1 : stC V I1 T m p (nI w) := ⟨h.1, h.2.1, h.2.2.1, h.2.2.2.1, by rw [eI1, iup_na (by decide)]; exact h.2.2.2.2⟩
    have h2 : stC V I2 T m p (nI w) := ⟨h.1, h.2.1, h.2.2.1, h.2.2.2.1, by rw [eI2, iup_na (by decide)]; exact h1.2.2.2.2⟩
    obtain ⟨J, e, f, s'⟩ := ih (c + 1) K I2 (by omega) (by omega) h2
    refine ⟨J, ?_, frCp_t (I := I2) ⟨fun _ _ _ => rfl, fun y u v => by rw [eI2, iup_na u, eI1, iup_na v], id⟩ f, s'⟩
    apply hd_50_22
    refine ev_f (nI_ge (b := 4) (by omega) (by omega)) (ev_b (rdR rfl) (ev_b (rdI h.2.1) (ev_b (a := fx V I1 L R ++ tl) ?_ (ev_b (a := Value.ref 167) (rVR qv_2_4 h.2.2.2.1) (ev_i rfl (ev_cI (c_47b h1 hw hp) (ev_i rfl ?_)))))))
    · rw [show (4 : Int32) * nI k + nI c = nI (4 * k + c) by rw [show (4 : Int32) * nI k = nI (4 * k) from (nI_mul 4 _).symm, nI_add], eI1]
      exact qs_4 (by omega)
    · rw [show (1 : Int32) + nI c = nI (1 + c) from nI_add 1 c, nI_1]
      refine ev_cV (d_51 h3 h4 hk (by omega) (by omega) 0) ?_
      rw [← eI2]
      exact e
set_option maxRecDepth 100000 in
set_option maxHeartbeats 4000000 in
theorem c_50l {L : Nat → Nat → Int64} {R : Nat → Nat → Option Nat} {tl : am_H} {T : Nat → Nat} {m N : Nat} {k s : Nat} (hk : k < s) (hs : s ≤ 7) : ∀ (t c K : Nat) (V : Nat → Nat → Value) (I : Nat → Nat → Int32) (p : Nat), c + t = 4 → t < K → p ≤ m → V 167 3 = .int (nI s) → V 167 4 = .int 5 → stC V I T m p (-1) → ∃ W J, fg_50_22 N K (.ref 2) (nI k) (nI c) (fx V I L R ++ tl) = some (.inl (none, fx W J L R ++ tl)) ∧ frCp V W I J ∧ (∀ j, W 167 j = V 167 j) ∧ resC (eg4 T t p) W J T m (fun _ => (∀ i, i < 5 * k + 1 + c → J 168 i = I 168 i) ∧ (∀ i, i < 4 * k + c → J 4 i = I 4 i) ∧ ∀ c', c ≤ c' → c' < 4 → J 168 (5 * k + 1 + c') = nI (T (p + (c' - c)) - 48) ∧ J 4 (4 * k + c') = nI (p + (c' - c))) := by
  intro t
  induction t with
  | zero =>
    intro c K V I p hc hK hp h3 h4 h
    obtain ⟨K, rfl⟩ : ∃ k, K = k + 1 := ⟨K - 1, by omega⟩
    exact ⟨V, I, hd_50_22 (ev_t (nI_le (a := 4) (by omega) (by omega)) rfl), frCp_r, fun _ => rfl, hp, h, fun _ _ => rfl, fun _ _ => rfl, fun c' a b => absurd b (by omega)⟩
  | succ t ih =>
    intro c K V I p hc hK hp h3 h4 h
    obtain ⟨K, rfl⟩ : ∃ k, K = k + 1 := ⟨K - 1, by omega⟩
    obtain ⟨I1, eI1⟩ : ∃ X, X = iup I 4 (upd (I 4) (4 * k + c) (nI p)) := ⟨_, rfl⟩
    have h1 : stC V I1 T m p (-1) := ⟨h.1, h.2.1, h.2.2.1, h.2.2.2.1, by rw [eI1, iup_na (by decide)]; exact h.2.2.2.2⟩
    have e47 := c_47 (V := V) (I := I1) (L := L) (R := R) (tl := tl) (lo := 0) (hi := 9) (by omega) (by omega) h1 hp
    have go : ∀ (x : Int32) (W : Nat → Nat → Value), fm_47 (.ref 2) 0 9 (fx V I1 L R ++ tl) = some (.inl (some (.int x), fx W I1 L R ++ tl)) → W 167 3 = .int (nI s) → W 167 4 = .int 5 → ∀ o, fg_50_22 N K (.ref 2) (nI k) (nI (c + 1)) (fx W (iup I1 168 (upd (I1 168) (5 * k + (1 + c)) x)) L R ++ tl) = o → fg_50_22 N (K + 1) (.ref 2) (nI k) (nI c) (fx V I L R ++ tl) = o := fun x W ea w3 w4 o k_ => by
      apply hd_50_22
      refine ev_f (nI_ge (b := 4) (by omega) (by omega)) (ev_b (rdR rfl) (ev_b (rdI h.2.1) (ev_b (a := fx V I1 L R ++ tl) ?_ (ev_b (a := Value.ref 167) (rVR qv_2_4 h.2.2.2.1) (ev_i rfl (ev_cI ea (ev_i rfl ?_)))))))
      · rw [show (4 : Int32) * nI k + nI c = nI (4 * k + c) by rw [show (4 : Int32) * nI k = nI (4 * k) from (nI_mul 4 _).symm, nI_add], eI1]
        exact qs_4 (by omega)
      · rw [show (1 : Int32) + nI c = nI (1 + c) from nI_add 1 c, nI_1]
        exact ev_cV (d_51 w3 w4 hk (by omega) (by omega) x) k_
    rw [eg4]
    by_cases d : dgB (T p) = true
    · rw [if_pos d]
      obtain ⟨d1, d2⟩ := dgB_t.mp d
      rw [if_pos (show 48 + 0 ≤ T p ∧ T p ≤ 48 + 9 by omega)] at e47
      have pm := tq_m h.2.2.2.2 (p := p) (by omega)
      obtain ⟨I2, eI2⟩ : ∃ X, X = iup I1 168 (upd (I1 168) (5 * k + (1 + c)) (nI (T p - 48))) := ⟨_, rfl⟩
      have s2 : stC (vup V 2 2 (.int (nI (p + 1)))) I2 T m (p + 1) (-1) := by
        have := stC_a (q := p + 1) h1
        exact ⟨this.1, this.2.1, this.2.2.1, this.2.2.2.1, by rw [eI2, iup_na (by decide)]; exact this.2.2.2.2⟩
      obtain ⟨W, J, e, f, g, r⟩ := ih (c + 1) K (vup V 2 2 (.int (nI (p + 1)))) I2 (p + 1) (by omega) (by omega) (by omega) ((vup_na (by decide)).trans h3) ((vup_na (by decide)).trans h4) s2
      refine ⟨W, J, go _ _ e47 ((vup_na (by decide)).trans h3) ((vup_na (by decide)).trans h4) _ (by rw [← eI2]; exact e), frCp_t (frCp_2 (.inl rfl)) (frCp_t (I := I2) ⟨fun _ _ _ => rfl, fun y u v => by rw [eI2, iup_na u, eI1, iup_na v], id⟩ f), fun j => (g j).trans (vup_na (by decide)), ?_⟩
      cases q : eg4 T t (p + 1) with
      | inl e => rw [q] at r; exact r
      | inr a =>
        rw [q] at r
        obtain ⟨r1, r2, r3, r4, r5⟩ := r
        have i8 : ∀ i, i ≠ 5 * k + 1 + c → I2 168 i = I 168 i := fun i hi => by rw [eI2, iup_eq, upd_ne (by omega), eI1, iup_na (by decide)]
        have i4 : ∀ i, i ≠ 4 * k + c → I2 4 i = I 4 i := fun i hi => by rw [eI2, iup_na (by decide), eI1, iup_eq, upd_ne hi]
        refine ⟨r1, r2, fun i hi => (r3 i (by omega)).trans (i8 i (by omega)), fun i hi => (r4 i (by omega)).trans (i4 i (by omega)), fun c' a1 a2 => ?_⟩
        by_cases z : c' = c
        · rw [z, Nat.sub_self, Nat.add_zero]
          refine ⟨(r3 (5 * k + 1 + c) (by omega)).trans ?_, (r4 (4 * k + c) (by omega)).trans ?_⟩
          · rw [eI2, iup_eq, show 5 * k + 1 + c = 5 * k + (1 + c) by omega]
            exact upd_eq
          · rw [eI2, iup_na (by decide), eI1, iup_eq]
            exact upd_eq
        · have := r5 c' (by omega) a2
          rw [show p + 1 + (c' - (c + 1)) = p + (c' - c) by omega] at this
          exact this
    · rw [if_neg d]
      have d' := dgB_f.mp (show dgB (T p) = false by rw [← Bool.not_eq_true]; exact d)
      rw [if_neg (by omega)] at e47
      obtain ⟨I2, eI2⟩ : ∃ X, X = iup I1 168 (upd (I1 168) (5 * k + (1 + c)) 0) := ⟨_, rfl⟩
      have s2 : stC (vup V 2 3 (.int (nI p))) I2 T m p (nI p) := by
        have := stC_w (x := nI p) h1
        exact ⟨this.1, this.2.1, this.2.2.1, this.2.2.2.1, by rw [eI2, iup_na (by decide)]; exact this.2.2.2.2⟩
      obtain ⟨J, e, f, s3⟩ := c_50f (L := L) (R := R) (tl := tl) (N := N) (V := vup V 2 3 (.int (nI p))) hk hs hp hp ((vup_na (by decide)).trans h3) ((vup_na (by decide)).trans h4) t (c + 1) K I2 (by omega) (by omega) s2
      exact ⟨_, J, go _ _ e47 ((vup_na (by decide)).trans h3) ((vup_na (by decide)).trans h4) _ (by rw [← eI2]; exact e), frCp_t (frCp_2 (.inr rfl)) (frCp_t (I := I2) ⟨fun _ _ _ => rfl, fun y u v => by rw [eI2, iup_na u, eI1, iup_na v], id⟩ f), fun j => vup_na (by decide), hp, p, hp, s3⟩
set_option maxRecDepth 100000 in
set_option maxHeartbeats 4000000 in
theorem c_50 {V : Nat → Nat → Value} {I : Nat → Nat → Int32} {L : Nat → Nat → Int64} {R : Nat → Nat → Option Nat} {tl : am_H} {T : Nat → Nat} {m p N k : Nat} {Q : xM} (hN : 10 < N) (h : stC V I T m p (-1)) (hp : p ≤ m) (hQ : Q.length = k) (hk : k < 6) (hP : prM V I T Q) (hS : stE (I 4) Q) : ∃ W J, fm_50 N (.ref 2) (nI k) (fx V I L R ++ tl) = some (.inl (none, fx W J L R ++ tl)) ∧ frCp V W I J ∧ resC (mcTx T p) W J T m (fun x => prM W J T (Q ++ [x]) ∧ stE (J 4) (Q ++ [x])) := by
  have m240 := h.2.2.2.2.1
  obtain ⟨x, W, e1, f1, g1, r1⟩ := c_43 (V := V) (I := I) (L := L) (R := R) (tl := tl) (N := N) (by omega) h hp
  have w3 : W 167 3 = .int (nI k) := by rw [g1 3, hP.1, hQ]
  have w4 : W 167 4 = .int 5 := (g1 4).trans hP.2.1
  have e41 := d_41x (V := W) (I := I) (L := L) (R := R) (tl := tl) (N := N) (by omega) w3 w4 (by omega) x 0
  obtain ⟨V2, eV2⟩ : ∃ X, X = vup W 167 3 (.int (nI (k + 1))) := ⟨_, rfl⟩
  obtain ⟨I2, eI2⟩ : ∃ X, X = iup I 168 (upd (upd (upd (upd (upd (I 168) (5 * k + 2) 0) (5 * k + 3) 0) (5 * k + 4) 0) (5 * k) x) (5 * k + 1) 0) := ⟨_, rfl⟩
  rw [← eV2, ← eI2] at e41
  have f2 : frCp W V2 I I2 := ⟨fun a j q => by rw [eV2]; exact vup_o (fun e => q (.inr e)), fun y u v => by rw [eI2]; exact iup_na u, fun w => by rw [eV2]; exact wt_i w (by decide)⟩
  have sC : ∀ (p' : Nat) (w : Int32), stC W I T m p' w → stC V2 I2 T m p' w := fun p' w s => ⟨by rw [eV2, vup_na (by decide)]; exact s.1, by rw [eV2, vup_na (by decide)]; exact s.2.1, by rw [eV2, vup_na (by decide)]; exact s.2.2.1, by rw [eV2, vup_na (by decide)]; exact s.2.2.2.1, by rw [eI2, iup_na (by decide)]; exact s.2.2.2.2⟩
  have v3 : V2 167 3 = .int (nI (k + 1)) := by rw [eV2]; exact vup_eq
  have v4 : V2 167 4 = .int 5 := by rw [eV2, vup_o (by decide)]; exact w4
  have go : ∀ (y : Int32) (W3 : Nat → Nat → Value), fm_42 (.ref 2) 58 (fx V2 I2 L R ++ tl) = some (.inl (some (.int y), fx W3 I2 L R ++ tl)) → ∀ o, fg_50_22 N N (.ref 2) (nI k) (nI 0) (fx W3 I2 L R ++ tl) = o → fm_50 N (.ref 2) (nI k) (fx V I L R ++ tl) = o := fun y W3 ea o k_ => by
    apply hm_50
    apply hd_50_0
    exact ev_b (a := Value.ref 167) (rVR qv_2_4 h.2.2.2.1) (ev_i rfl (ev_cI e1 (ev_i rfl (ev_cI e41 (ev_i rfl (ev_cI ea k_))))))
  unfold mcTx
  cases q : csT T p with
  | inl e =>
    rw [q] at r1
    obtain ⟨r2, p', r3, s1⟩ := r1
    have s2 := sC _ _ s1
    obtain ⟨J, e3, f3, s3⟩ := c_50f (L := L) (R := R) (tl := tl) (N := N) (V := V2) (k := k) (s := k + 1) (by omega) (by omega) r2 r3 v3 v4 4 0 N I2 (by omega) (by omega) s2
    exact ⟨V2, J, go _ _ (c_42b s2 r2) _ e3, frCp_t f1 (frCp_t f2 f3), r2, p', r3, s3⟩
  | inr a =>
    rw [q] at r1
    obtain ⟨r2, s1, r4, r5⟩ := r1
    have s2 := sC _ _ s1
    have e := c_42 (V := V2) (I := I2) (L := L) (R := R) (tl := tl) (c := 58) (by omega) (x := 58) rfl s2 r2
    show ∃ W J, _ ∧ _ ∧ resC (if T a.1 = 58 then sMt (eg4 T 4 (a.1 + 1)) (fun r _ => .inr (r, (a.2, a.1 + 1))) else .inl a.1) W J T m _
    by_cases c : T a.1 = 58
    · rw [if_pos c] at e ⊢
      have pm := tq_m h.2.2.2.2 (p := a.1) (by omega)
      obtain ⟨W3, J3, e3, f3, g3, r3⟩ := c_50l (L := L) (R := R) (tl := tl) (T := T) (m := m) (N := N) (k := k) (s := k + 1) (by omega) (by omega) 4 0 N (vup V2 2 2 (.int (nI (a.1 + 1)))) I2 (a.1 + 1) (by omega) (by omega) (by omega) ((vup_na (by decide)).trans v3) ((vup_na (by decide)).trans v4) (stC_a s2)
      refine ⟨W3, J3, go _ _ e _ e3, frCp_t f1 (frCp_t f2 (frCp_t (frCp_2 (.inl rfl)) f3)), ?_⟩
      cases q2 : eg4 T 4 (a.1 + 1) with
      | inl w => rw [q2] at r3; exact r3
      | inr b =>
        rw [q2] at r3
        obtain ⟨t1, t2, t3, t4, t5⟩ := r3
        have o8 : ∀ i, i < 5 * k → J3 168 i = I 168 i := fun i hi => by rw [t3 i (by omega), eI2, iup_eq, upd_ne (by omega), upd_ne (by omega), upd_ne (by omega), upd_ne (by omega), upd_ne (by omega)]
        have o4 : ∀ i, i < 4 * k → J3 4 i = I 4 i := fun i hi => by rw [t4 i (by omega), eI2, iup_na (by decide)]
        refine ⟨t1, t2, ⟨?_, ?_, fun i y hi => ?_⟩, fun i y hi c' hc' => ?_⟩
        · rw [g3 3, vup_na (by decide), v3, List.length_append, hQ]
          rfl
        · rw [g3 4, vup_na (by decide)]
          exact v4
        · by_cases z : i < Q.length
          · rw [List.getElem?_append_left z] at hi
            obtain ⟨y1, y2⟩ := hP.2.2 i y hi
            exact ⟨(o8 _ (by omega)).trans y1, fun c' hc' => (o8 _ (by omega)).trans (y2 c' hc')⟩
          · rw [List.getElem?_append_right (by omega)] at hi
            obtain ⟨d, ed⟩ : ∃ d, d = i - Q.length := ⟨_, rfl⟩
            rw [← ed] at hi
            cases d with
            | succ d => exact absurd hi (by simp)
            | zero =>
              obtain rfl : i = k := by omega
              rw [← Option.some.inj hi]
              refine ⟨?_, fun c' hc' => ?_⟩
              · rw [t3 (5 * i) (by omega), eI2, iup_eq, upd_ne (by omega), upd_eq]
                exact r4
              · have := (t5 c' (by omega) hc').1
                rw [Nat.sub_zero] at this
                exact this
        · by_cases z : i < Q.length
          · rw [List.getElem?_append_left z] at hi
            exact (o4 _ (by omega)).trans (hS i y hi c' hc')
          · rw [List.getElem?_append_right (by omega)] at hi
            obtain ⟨d, ed⟩ : ∃ d, d = i - Q.length := ⟨_, rfl⟩
            rw [← ed] at hi
            cases d with
            | succ d => exact absurd hi (by simp)
            | zero =>
              obtain rfl : i = k := by omega
              rw [← Option.some.inj hi]
              have := (t5 c' (by omega) hc').2
              rw [Nat.sub_zero] at this
              exact this
    · rw [if_neg c] at e ⊢
      obtain ⟨J, e3, f3, s3⟩ := c_50f (L := L) (R := R) (tl := tl) (N := N) (V := vup V2 2 3 (.int (nI a.1))) (k := k) (s := k + 1) (by omega) (by omega) r2 r2 ((vup_na (by decide)).trans v3) ((vup_na (by decide)).trans v4) 4 0 N I2 (by omega) (by omega) (stC_w (x := nI a.1) s2)
      exact ⟨_, J, go _ _ e _ e3, frCp_t f1 (frCp_t f2 (frCp_t (frCp_2 (.inr rfl)) f3)), r2, a.1, r2, s3⟩
def resM (r : Nat ⊕ xM) (W : Nat → Nat → Value) (J : Nat → Nat → Int32) (T : Nat → Nat) (m : Nat) : Prop := match r with
  | .inl e => e ≤ m ∧ ∃ p', p' ≤ m ∧ stC W J T m p' (nI e)
  | .inr Q => stC W J T m m (-1) ∧ prM W J T Q ∧ 1 ≤ Q.length ∧ Q.length ≤ 6 ∧ stE (J 4) Q
set_option maxRecDepth 100000 in
set_option maxHeartbeats 4000000 in
theorem c_48m {L : Nat → Nat → Int64} {R : Nat → Nat → Option Nat} {tl : am_H} {T : Nat → Nat} {m N : Nat} (hN : 10 < N) : ∀ (f k K : Nat) (V : Nat → Nat → Value) (I : Nat → Nat → Int32) (p : Nat) (Q : xM), f + k = 6 → Q.length = k → f < K → p ≤ m → stC V I T m p (-1) → prM V I T Q → stE (I 4) Q → ∃ W J, fg_48_66 N (fg_48_15 N K) (.ref 2) 2 6 (nI k) (fx V I L R ++ tl) = some (.inl (none, fx W J L R ++ tl)) ∧ frCp V W I J ∧ resM (mcSq T m f p Q) W J T m := by
  intro f
  induction f with
  | zero =>
    intro k K V I p Q hf hQ hK hp h hP hS
    obtain ⟨K, rfl⟩ : ∃ k, K = k + 1 := ⟨K - 1, by omega⟩
    obtain rfl : k = 6 := by omega
    refine ⟨vup V 2 3 (.int (nI p)), I, ?_, frCp_2 (.inr rfl), hp, p, hp, stC_w h⟩
    apply hd_48_66
    exact ev_f (fun q => q rfl) (ev_i rfl (ev_cV (c_39 h) (hd_48_105 (hd_48_15 (ev_t (by decide) (hd_48_111 rfl))))))
  | succ f ih =>
    intro k K V I p Q hf hQ hK hp h hP hS
    obtain ⟨K, rfl⟩ : ∃ k, K = k + 1 := ⟨K - 1, by omega⟩
    have m240 := h.2.2.2.2.1
    obtain ⟨W, J, e2, f2, r2⟩ := c_50 (V := V) (I := I) (L := L) (R := R) (tl := tl) (N := N) (Q := Q) hN h hp hQ (by omega) hP hS
    have go : ∀ o, fg_48_15 N (K + 1) (.ref 2) 2 6 (nI (k + 1)) (fx W J L R ++ tl) = o → fg_48_66 N (fg_48_15 N (K + 1)) (.ref 2) 2 6 (nI k) (fx V I L R ++ tl) = o := fun o k_ => by
      apply hd_48_66
      refine ev_t (fun q => by have := (nI_eq (b := 6) (by omega) (by omega)).mp q; omega) (ev_t (by decide) (ev_i rfl (ev_cV e2 (hd_48_105 ?_))))
      rw [nI_1]
      exact k_
    have nk : ¬ (6 : Int32) < nI (k + 1) := nI_nlt (a := 6) (by omega) (by omega)
    have nz : ¬ nI (k + 1) = 0 := fun q => by have := (nI_eq (b := 0) (by omega) (by omega)).mp q; omega
    rw [mcSq]
    cases q : mcTx T p with
    | inl e =>
      rw [q] at r2
      obtain ⟨r1, p', rp, s2⟩ := r2
      exact ⟨W, J, go _ (hd_48_15 (ev_f nk (ev_b (rdI s2.2.2.1) (ev_t (nI_pos' (by omega)) (hd_48_111 rfl))))), f2, r1, p', rp, s2⟩
    | inr a =>
      rw [q] at r2
      obtain ⟨r1, s2, P2, S2⟩ := r2
      have l2 : (Q ++ [a.2]).length = k + 1 := by rw [List.length_append, hQ]; rfl
      show ∃ W' J', _ ∧ _ ∧ resM (if a.1 < m then (if T a.1 = 59 then mcSq T m f (a.1 + 1) (Q ++ [a.2]) else .inl a.1) else .inr (Q ++ [a.2])) W' J' T m
      by_cases c : a.1 < m
      · rw [if_pos c]
        have e := c_42 (V := W) (I := J) (L := L) (R := R) (tl := tl) (c := 59) (by omega) (x := 59) rfl s2 r1
        have go2 : ∀ o, fg_48_59 N (fg_48_15 N K) (.ref 2) 2 6 (nI (k + 1)) (.ref 2) 59 (fx W J L R ++ tl) = o → fg_48_15 N (K + 1) (.ref 2) 2 6 (nI (k + 1)) (fx W J L R ++ tl) = o := fun o k_ => hd_48_15 (ev_f nk (ev_b (rdI s2.2.2.1) (ev_f (by decide) (ev_f nz (ev_b (rdI s2.2.1) (ev_b (rdI s2.1) (ev_f (nI_ge c (by omega)) (hd_48_42 (ev_f (nI_ge (a := 0) (by omega) (by omega)) (ev_t (by decide) k_))))))))))
        by_cases d : T a.1 = 59
        · rw [if_pos d] at e ⊢
          obtain ⟨W', J', e3, f3, r3⟩ := ih (k + 1) K (vup W 2 2 (.int (nI (a.1 + 1)))) J (a.1 + 1) (Q ++ [a.2]) (by omega) l2 (by omega) (by omega) (stC_a s2) ⟨(vup_na (by decide)).trans P2.1, (vup_na (by decide)).trans P2.2.1, P2.2.2⟩ S2
          exact ⟨W', J', go _ (go2 _ (hd_48_59 (ev_i rfl (ev_cI e (ev_t (by decide) e3))))), frCp_t f2 (frCp_t (frCp_2 (.inl rfl)) f3), r3⟩
        · rw [if_neg d] at e ⊢
          exact ⟨_, J, go _ (go2 _ (hd_48_59 (ev_i rfl (ev_cI e (ev_f (fun q => q rfl) rfl))))), frCp_t f2 (frCp_2 (.inr rfl)), r1, a.1, r1, stC_w s2⟩
      · rw [if_neg c]
        have ea : a.1 = m := by omega
        exact ⟨W, J, go _ (hd_48_15 (ev_f nk (ev_b (rdI s2.2.2.1) (ev_f (by decide) (ev_f nz (ev_b (rdI s2.2.1) (ev_b (rdI s2.1) (ev_t (nI_le (by omega) (by omega)) (hd_48_111 rfl))))))))), f2, by rw [← ea]; rw [← ea] at s2; exact s2, P2, by omega, by omega, S2⟩
