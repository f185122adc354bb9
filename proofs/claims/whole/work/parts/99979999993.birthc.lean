/-! ===== a birth by change or cross: the class ===== -/
/-- what change makes -/
def isChg (kd ln : Nat) (P : xI) (w : Nat) (sd : Int64) (X : xI) (nb : Int32) : Prop :=
  (w = 4 ∧ kd = 0 ∧ nb = -1 ∧ ∃ k c n n0 r tr fl, k = hlf (nxt sd) % (uTx P).length ∧ tr = truN (xS (uTx P) k) ∧ fl = inL (sl (uTx P)) k ∧ c = 2 * fl + tr ∧ n0 = 1 + hlf (nxt (nxt sd)) % 4 ∧ nzP c n0 n ∧ r = (2147483648 * hlf (nxt (nxt (nxt sd))) + hlf (nxt (nxt (nxt (nxt sd))))) % uT c n ∧ X = (if sndB 0 (tI ((uTx P).take k ++ (unX c n r ++ (uTx P).drop (xE (uTx P) k)))) = true then tI ((uTx P).take k ++ (unX c n r ++ (uTx P).drop (xE (uTx P) k))) else tI (uTx P)))
  ∨ (w < 4 ∧ ((cnt (cdE kd ln P w) (ncE kd ln P.length w) 0 = 0 ∧ X = P ∧ nb = -1) ∨ ∃ m y d, m = cnt (cdE kd ln P w) (ncE kd ln P.length w) 0 ∧ 0 < m ∧ y = hlf (nxt sd) % m ∧ d < ncE kd ln P.length w ∧ cdE kd ln P w d = some X ∧ cnt (cdE kd ln P w) d 0 = y ∧ nb = nI y))
/-- what cross makes -/
def isCrs (kd ln ln' : Nat) (P Q : xI) (sd : Int64) (X : xI) (nb : Int32) : Prop :=
  ((¬ (kd = kd ∧ (kd = 3 → ln = ln')) ∨ (ln = ln' ∧ cnt (cdP kd P Q) (ncP kd ln ln P.length Q.length) 0 = 0)) ∧ X = P ∧ nb = -1)
  ∨ (ln = ln' ∧ ∃ m y d, m = cnt (cdP kd P Q) (ncP kd ln ln P.length Q.length) 0 ∧ 0 < m ∧ y = hlf (nxt sd) % m ∧ d < ncP kd ln ln P.length Q.length ∧ cdP kd P Q d = some X ∧ cnt (cdP kd P Q) d 0 = y ∧ nb = nI y)
theorem lay2_x (X : xI) : lay2 (srt X) (vlu X) X := fun k x h => by
  unfold srt vlu
  rw [List.getD_eq_getElem?_getD, h]
  exact ⟨rfl, rfl⟩
set_option maxRecDepth 100000 in
set_option maxHeartbeats 4000000 in
theorem c190b {V : Nat → Nat → Value} {I : Nat → Nat → Int32} {L : Nat → Nat → Int64} {R : Nat → Nat → Option Nat} {tl : am_H} {N n b kd ln : Nat} {X : xI} {sd : Int64} {x2 x3 nb : Int32} (hm : V 0 1 = .int (nI n)) (hn : n < 600) (gX : gdP kd ln X) (h90 : holdE V I 90 kd ln X) : fg_190_121 N (.ref 0) (nI b) x2 x3 sd nb (fx V I L R ++ tl) = some (.inl (some (.int (nI n)), fx (vup V 0 1 (.int (nI (n + 1)))) I L (rup R 1 (va_up (R 1) n (some (269 + tl.length)))) ++ (tl ++ brt tl.length kd ln X.length (if 0 ≤ x2 then 4 else 3) (nI b) x2 x3 nb sd (va_cpy (I 91) (fun _ => 0) 0 0 (X.length * wdN kd))))) := by
  have eb := fun wy => bear_c90 (V := V) (I := I) (L := L) (R := R) (tl := tl) (n := n) (kd := kd) (ln := ln) (sz := X.length) h90.1 h90.2.1 h90.2.2.1 h90.2.2.2.1 gX.1 (gd_w gX) hm hn wy (nI b) x2 x3 nb sd
  apply hd_190_121
  by_cases z : 0 ≤ x2
  · rw [show (if 0 ≤ x2 then (4 : Int32) else 3) = 4 from if_pos z]
    refine ev_b (rdR rfl) (ev_b (rdR rfl) (ev_t z ?_))
    apply hd_190_138
    exact ev_i rfl (ev_cI (eb 4) rfl)
  · rw [show (if 0 ≤ x2 then (4 : Int32) else 3) = 3 from if_neg z]
    refine ev_b (rdR rfl) (ev_b (rdR rfl) (ev_f z ?_))
    apply hd_190_138
    exact ev_i rfl (ev_cI (eb 3) rfl)
theorem itm_f {kd : Nat} {Q : xI} {f g : Nat → Int32} (h : itm kd (srt Q) (vlu Q) Q.length f) : itm kd (srt Q) (vlu Q) Q.length (va_cpy f g 0 0 (Q.length * wdN kd)) := itm_cp h (lay2_x Q)
set_option maxRecDepth 100000 in
set_option maxHeartbeats 4000000 in
theorem c190 {V : Nat → Nat → Value} {I : Nat → Nat → Int32} {L : Nat → Nat → Int64} {R : Nat → Nat → Option Nat} {tl : am_H} {N n b a it kd ln w : Nat} {P : xI} {sd : Int64} (hN : 5000 < N) (b2 : V 0 1 = .int (nI n)) (hn : n < 600) (hb : b < n) (hwt : wt V) (hg : gdP kd ln P) (q4 : R 1 b = some (269 + a)) (q5 : ∀ W J, srcE W J tl (269 + a) (269 + it) kd ln P) (r1 : L 77 = tW) (r2 : L 78 = tT) (hw : w < 5) (w4 : w = 4 → kd = 0) : ∃ W J X nb f, fm_190 N (.ref 0) (nI b) (-1) (nI w) sd (fx V I L R ++ tl) = some (.inl (some (.int (nI n)), fx (vup W 0 1 (.int (nI (n + 1)))) J L (rup R 1 (va_up (R 1) n (some (269 + tl.length)))) ++ (tl ++ brt tl.length kd ln X.length 3 (nI b) (-1) (nI w) nb sd f))) ∧ isChg kd ln P w sd X nb ∧ gdP kd ln X ∧ itm kd (srt X) (vlu X) X.length f ∧ frIs V W I J := by
  have k3 := hg.1
  obtain ⟨V1, ev1⟩ : ∃ X, X = vup V 173 0 (.long sd) := ⟨_, rfl⟩
  have iv : frIs V V1 I I := ⟨fun a' j' _ h => by rw [ev1]; exact vup_na h, fun _ _ => rfl, fun w' => by rw [ev1]; exact wt_lg w' (by decide)⟩
  have w1 : wt V1 := iv.2.2 hwt
  have c90 : ∀ o, (if ¬ nI w = 4 then ((am_vR (am_pG 2823 (.ref 0) (fx V1 I L R ++ tl))).bind fun v10 => (if (0 : Int32) ≤ (-1) then (if am_pOk 11 (.ref 0) (fx V1 I L R ++ tl) then am_cR true (fm_63 (.ref 0) (-1) (fx V1 I L R ++ tl)) (fun v14 h15 => (fg_190_63 N (.ref 0) (nI b) (-1) (nI w) sd (.ref (269 + a)) v10 (.ref (269 + a)) v14 h15)) else none) else (fg_190_63 N (.ref 0) (nI b) (-1) (nI w) sd (.ref (269 + a)) v10 (.ref (269 + a)) Value.null (fx V1 I L R ++ tl)))) else ((am_vR (am_pG 2823 (.ref 0) (fx V1 I L R ++ tl))).bind fun v17 => ((am_vR (am_pG 2835 (.ref 0) (fx V1 I L R ++ tl))).bind fun v19 => ((am_vR (am_pG 2822 (.ref 0) (fx V1 I L R ++ tl))).bind fun v21 => (if am_pOk 0 v17 (fx V1 I L R ++ tl) then am_cV true (fm_191 N v17 (.ref (269 + a)) v19 v21 (fx V1 I L R ++ tl)) (fun h25 => (fg_190_121 N (.ref 0) (nI b) (-1) (nI w) sd ((-1)) h25)) else none))))) = o → fm_190 N (.ref 0) (nI b) (-1) (nI w) sd (fx V I L R ++ tl) = o := fun o k_ => by
    apply hm_190
    apply hd_190_0
    exact ev_i rfl (ev_cR (c_63 b2 (by omega) hb q4) rfl (ev_b (rdR rfl) (ev_b (a := fx V1 I L R ++ tl) (by rw [ev1]; exact qp_173_0) k_)))
  have fin : ∀ (W : Nat → Nat → Value) (J : Nat → Nat → Int32) (X : xI) (nb : Int32), frIs V W I J → gdP kd ln X → holdE W J 90 kd ln X → isChg kd ln P w sd X nb → fm_190 N (.ref 0) (nI b) (-1) (nI w) sd (fx V I L R ++ tl) = fg_190_121 N (.ref 0) (nI b) (-1) (nI w) sd nb (fx W J L R ++ tl) → ∃ W J X nb f, fm_190 N (.ref 0) (nI b) (-1) (nI w) sd (fx V I L R ++ tl) = some (.inl (some (.int (nI n)), fx (vup W 0 1 (.int (nI (n + 1)))) J L (rup R 1 (va_up (R 1) n (some (269 + tl.length)))) ++ (tl ++ brt tl.length kd ln X.length 3 (nI b) (-1) (nI w) nb sd f))) ∧ isChg kd ln P w sd X nb ∧ gdP kd ln X ∧ itm kd (srt X) (vlu X) X.length f ∧ frIs V W I J := fun W J X nb f gX h9 hi e => ⟨W, J, X, nb, _, e.trans (c190b ((f.1 0 1 (by omega) (by omega)).trans b2) hn gX h9), hi, gX, itm_f h9.2.2.2.2, f⟩
  by_cases wf : w = 4
  · subst wf
    obtain rfl := w4 rfl
    obtain ⟨rfl, ho, et⟩ := hg.2.2.1 rfl
    have p1 := gdL_1 hg (by decide)
    obtain ⟨T, eT⟩ : ∃ T, T = uTx P := ⟨_, rfl⟩
    rw [← eT] at ho et
    have lT : T.length = P.length := by rw [eT]; exact uTx_len
    have pT : 1 ≤ T.length := by omega
    have hgT : gdP 0 0 (tI T) := by rw [et]; exact hg
    obtain ⟨k, ek⟩ : ∃ k, k = hlf (nxt sd) % T.length := ⟨_, rfl⟩
    have hk : k < T.length := by rw [ek]; exact Nat.mod_lt _ (by omega)
    obtain ⟨tr, etr⟩ : ∃ tr, tr = truN (xS T k) := ⟨_, rfl⟩
    obtain ⟨fl, efl⟩ : ∃ fl, fl = inL (sl T) k := ⟨_, rfl⟩
    have tr1 : tr ≤ 1 := by rw [etr]; unfold truN; split <;> omega
    have fl1 : fl ≤ 1 := by rw [efl]; exact in_le1 _ _
    obtain ⟨c, ec⟩ : ∃ c, c = 2 * fl + tr := ⟨_, rfl⟩
    obtain ⟨n0, en⟩ : ∃ n0, n0 = 1 + hlf (nxt (nxt sd)) % 4 := ⟨_, rfl⟩
    have n0b := Nat.mod_lt (hlf (nxt (nxt sd))) (show 0 < 4 by decide)
    have hz := nz_ex (c := c) (n0 := n0) (by omega) (by omega) (by omega)
    obtain ⟨m, em⟩ : ∃ m, m = nzF c n0 := ⟨_, rfl⟩
    rw [← em] at hz
    have n1 : 1 ≤ m := by have := hz.1; omega
    obtain ⟨r, er⟩ : ∃ r, r = (2147483648 * hlf (nxt (nxt (nxt sd))) + hlf (nxt (nxt (nxt (nxt sd))))) % uT c m := ⟨_, rfl⟩
    have hrr : r < uT c m := by rw [er]; exact Nat.mod_lt _ (Nat.pos_of_ne_zero hz.2.2.1)
    have sT : srcP V1 I tl (269 + a) (269 + it) 0 0 T := srcE_P (by omega) (by omega) (by rw [lT]; exact hg.2.1) (by rw [et]; exact q5 V1 I)
    obtain ⟨W2, J2, e1, h90, f1⟩ := s191f (V := V1) (I := I) (L := L) (R := R) (tl := tl) (N := N) (A := 269 + a) (it := 269 + it) (P := T) (by omega) w1 sT (by omega) (by omega) ho hgT r1 r2 (by rw [ev1]; exact vup_eq) pT ek etr efl ec en hz er
    obtain ⟨X, eX⟩ : ∃ X, X = (if sndB 0 (tI (T.take k ++ (unX c m r ++ T.drop (xE T k)))) = true then tI (T.take k ++ (unX c m r ++ T.drop (xE T k))) else tI T) := ⟨_, rfl⟩
    rw [← eX] at h90
    have gX : gdP 0 0 X := by
      rw [eX]
      by_cases z : sndB 0 (tI (T.take k ++ (unX c m r ++ T.drop (xE T k)))) = true
      · rw [if_pos z]
        exact rg_gd hgT ho hk n1 hz.2.1 (by omega) hrr (tr := tr) (fl := fl) (by omega) (by omega) z
      · rw [if_neg z]
        exact hgT
    refine fin W2 J2 X (-1) (frIs_t iv f1) gX h90 (.inl ⟨rfl, rfl, rfl, k, c, m, n0, r, tr, fl, ?_⟩) (c90 _ (ev_f (fun u => u rfl) (ev_b (rdR rfl) (ev_b (rdR rfl) (ev_b (rdR rfl) (ev_i rfl (ev_cV e1 rfl)))))))
    rw [← eT]
    exact ⟨ek, etr, efl, ec, en, hz, er, eX⟩
  -- the other ways
  have w3 : w < 4 := by omega
  obtain ⟨W1, J1, nC, e1, s1, h9, hC, f1⟩ := beg_E (V := V1) (I := I) (L := L) (R := R) (tl := tl) (N := N) (by omega) hg w3 w1 (q5 V1 I) (by omega) (by omega)
  have nb := ncE_b hg w3
  have i1 := frIs_t iv (frIs_Cg f1)
  obtain ⟨W2, J2, e2, s2, f2⟩ := s162 (L := L) (R := R) (tl := tl) (N := N) (S := SE tl (269 + a) (269 + it) kd ln w P) (cd := cdE kd ln P w) nb hC (fun _ _ _ _ h f => SE_f h f) (fun V I h c hc => all_m (by omega) hg w3 h hc) hN s1 h9
  have i2 : frIs V W2 I J2 := frIs_t i1 (frIs_Cg (frM_Cg f2))
  obtain ⟨m, em⟩ : ∃ m, m = cnt (cdE kd ln P w) (ncE kd ln P.length w) 0 := ⟨_, rfl⟩
  rw [← em] at e2
  have cm := cnt_m (cdE kd ln P w) (ncE kd ln P.length w) 0
  rw [← em] at cm
  have h9' : W2 89 9 = .int nC := (f2.1 89 9 (by omega) (by decide) (by decide) (by decide)).trans h9
  have pre : ∀ o, (if nI m ≤ 0 then (fg_190_95 N (.ref 0) (nI b) (-1) (nI w) sd (.ref (269 + a)) ((-1)) (fx W2 J2 L R ++ tl)) else ((am_vR (am_pG 2835 (.ref 0) (fx W2 J2 L R ++ tl))).bind fun v12 => (if am_pOk 8 v12 (fx W2 J2 L R ++ tl) then am_cI true (fm_192 v12 (nI m) (fx W2 J2 L R ++ tl)) (fun v15 h16 => (fg_190_95 N (.ref 0) (nI b) (-1) (nI w) sd (.ref (269 + a)) v15 h16)) else none))) = o → fm_190 N (.ref 0) (nI b) (-1) (nI w) sd (fx V I L R ++ tl) = o := fun o k_ => by
    refine c90 _ (ev_t (fun u => wf ((nI_eq (b := 4) (by omega) (by omega)).mp u)) (ev_b (rdR rfl) (ev_f (by decide) ?_)))
    apply hd_190_63
    exact ev_i rfl (ev_cI e1 (ev_b (rdR rfl) (ev_i rfl (ev_cI e2 k_))))
  by_cases z0 : m = 0
  · obtain ⟨W3, J3, e3, d3, f3⟩ := p60E_90 (V := W2) (I := J2) (L := L) (R := R) (tl := tl) (by omega) hg (q5 W2 J2)
    refine fin W3 J3 P (-1) (frIs_t i2 (frIs_Cg (frM_Cg (frM_9 f3)))) hg d3 (.inr ⟨w3, .inl ⟨by rw [← em]; exact z0, rfl, rfl⟩⟩) (pre _ (ev_t (by rw [z0]; decide) ?_))
    apply hd_190_95
    exact ev_b (rdR rfl) (ev_i rfl (ev_cI (s187n (by omega) (by decide) h9') (ev_f (fun u => u rfl) (ev_b (rdR rfl) (ev_b (rdR rfl) (ev_i rfl (ev_cV e3 rfl)))))))
  -- one is drawn
  obtain ⟨y, ey⟩ : ∃ y, y = hlf (nxt sd) % m := ⟨_, rfl⟩
  have ym : y < m := by rw [ey]; exact Nat.mod_lt _ (by omega)
  have s173' : W2 173 0 = .long sd := (f2.1 173 0 (by omega) (by decide) (by decide) (by decide)).trans ((f1.1 173 0 (by omega)).trans (by rw [ev1]; exact vup_eq))
  have ed := y_192 (I := J2) (L := L) (R := R) (tl := tl) (k := m) s173' (by omega) (by omega)
  rw [← ey] at ed
  obtain ⟨W3, ev3⟩ : ∃ X, X = vup W2 173 0 (.long (nxt sd)) := ⟨_, rfl⟩
  rw [← ev3] at ed
  have i3 : frIs V W3 I J2 := frIs_t i2 ⟨fun a' j' _ h => by rw [ev3]; exact vup_na h, fun _ _ => rfl, fun w' => by rw [ev3]; exact wt_lg w' (by decide)⟩
  obtain ⟨W4, J4, bb, e4, i4, d4, s4, f4⟩ := s187 (L := L) (R := R) (tl := tl) (N := N) (S := SE tl (269 + a) (269 + it) kd ln w P) (cd := cdE kd ln P w) (n := ncE kd ln P.length w) (V := W3) (I := J2) (y := y) nb hC (fun _ _ _ _ h f => SE_f h f) (fun V I h c hc => all_m (by omega) hg w3 h hc) hN (by omega) (by rw [ev3]; exact SE_173 (by omega) s2) (by rw [ev3]; exact h9')
  rw [← em] at i4
  have bt : bb = true := i4.mpr ym
  subst bt
  obtain ⟨d, X, dl, dq, dc, dh, d60⟩ := d4 rfl
  refine fin W4 J4 X (nI y) (frIs_t i3 (frIs_Cg (frM_Cg f4))) (cdE_gd hg w3 dl dq) dh (.inr ⟨w3, .inr ⟨m, y, d, em, by omega, ey, dl, dq, dc, rfl⟩⟩) (pre _ (ev_f (nI_ge (a := 0) (by omega) (by omega)) (ev_b (rdR rfl) (ev_i rfl (ev_cI ed ?_)))))
  apply hd_190_95
  exact ev_b (rdR rfl) (ev_i rfl (ev_cI e4 (ev_t (by decide) rfl)))
set_option maxRecDepth 100000 in
set_option maxHeartbeats 4000000 in
theorem c190x {V : Nat → Nat → Value} {I : Nat → Nat → Int32} {L : Nat → Nat → Int64} {R : Nat → Nat → Option Nat} {tl : am_H} {N n b c a it a' it' kd ln ln' : Nat} {P Q : xI} {sd : Int64} (hN : 5000 < N) (b2 : V 0 1 = .int (nI n)) (hn : n < 600) (hb : b < n) (hc : c < n) (hwt : wt V) (hg : gdP kd ln P) (hgq : gdP kd ln' Q) (q4 : R 1 b = some (269 + a)) (q5 : ∀ W J, srcE W J tl (269 + a) (269 + it) kd ln P) (r4 : R 1 c = some (269 + a')) (r5 : ∀ W J, srcE W J tl (269 + a') (269 + it') kd ln' Q) : ∃ W J X nb f, fm_190 N (.ref 0) (nI b) (nI c) (-1) sd (fx V I L R ++ tl) = some (.inl (some (.int (nI n)), fx (vup W 0 1 (.int (nI (n + 1)))) J L (rup R 1 (va_up (R 1) n (some (269 + tl.length)))) ++ (tl ++ brt tl.length kd ln X.length 4 (nI b) (nI c) (-1) nb sd f))) ∧ isCrs kd ln ln' P Q sd X nb ∧ gdP kd ln X ∧ itm kd (srt X) (vlu X) X.length f ∧ frIs V W I J := by
  have k3 := hg.1
  have gl := gd_ln hg
  have gl' := gd_ln hgq
  have c0 : (0 : Int32) ≤ nI c := nI_le (a := 0) (Nat.zero_le c) (by omega)
  obtain ⟨V1, ev1⟩ : ∃ X, X = vup V 173 0 (.long sd) := ⟨_, rfl⟩
  have iv : frIs V V1 I I := ⟨fun a' j' _ h => by rw [ev1]; exact vup_na h, fun _ _ => rfl, fun w' => by rw [ev1]; exact wt_lg w' (by decide)⟩
  have w1 : wt V1 := iv.2.2 hwt
  have b2' : V1 0 1 = .int (nI n) := (iv.1 0 1 (by omega) (by omega)).trans b2
  obtain ⟨W1, J1, nC, e1, h9, f1, cy, cn⟩ := beg_P (V := V1) (I := I) (L := L) (R := R) (tl := tl) (N := N) (x3 := -1) (by omega) hg hgq w1 (q5 V1 I) (r5 V1 I) (by omega) (by omega) (by omega) (by omega)
  have i1 := frIs_t iv (frIs_Cg f1)
  have s173 : W1 173 0 = .long sd := (f1.1 173 0 (by omega)).trans (by rw [ev1]; rfl)
  have pre : ∀ (x : Int32) (W2 : Nat → Nat → Value) (J2 : Nat → Nat → Int32) (o : Option am_O), fm_162 N (.ref 89) (fx W1 J1 L R ++ tl) = some (.inl (some (.int x), fx W2 J2 L R ++ tl)) → (if x ≤ 0 then (fg_190_95 N (.ref 0) (nI b) (nI c) (-1) sd (.ref (269 + a)) ((-1)) (fx W2 J2 L R ++ tl)) else ((am_vR (am_pG 2835 (.ref 0) (fx W2 J2 L R ++ tl))).bind fun v12 => (if am_pOk 8 v12 (fx W2 J2 L R ++ tl) then am_cI true (fm_192 v12 x (fx W2 J2 L R ++ tl)) (fun v15 h16 => (fg_190_95 N (.ref 0) (nI b) (nI c) (-1) sd (.ref (269 + a)) v15 h16)) else none))) = o → fm_190 N (.ref 0) (nI b) (nI c) (-1) sd (fx V I L R ++ tl) = o := fun x W2 J2 o e2 k_ => by
    apply hm_190
    apply hd_190_0
    refine ev_i rfl (ev_cR (c_63 b2 (by omega) hb q4) rfl (ev_b (rdR rfl) (ev_b (a := fx V1 I L R ++ tl) (by rw [ev1]; exact qp_173_0) (ev_t (by decide) (ev_b (rdR rfl) (ev_t c0 (ev_i rfl (ev_cR (c_63 b2' (by omega) hc r4) rfl ?_))))))))
    apply hd_190_63
    exact ev_i rfl (ev_cI e1 (ev_b (rdR rfl) (ev_i rfl (ev_cI e2 k_))))
  have fin : ∀ (W : Nat → Nat → Value) (J : Nat → Nat → Int32) (X : xI) (nb : Int32), frIs V W I J → gdP kd ln X → holdE W J 90 kd ln X → isCrs kd ln ln' P Q sd X nb → fm_190 N (.ref 0) (nI b) (nI c) (-1) sd (fx V I L R ++ tl) = fg_190_121 N (.ref 0) (nI b) (nI c) (-1) sd nb (fx W J L R ++ tl) → ∃ W J X nb f, fm_190 N (.ref 0) (nI b) (nI c) (-1) sd (fx V I L R ++ tl) = some (.inl (some (.int (nI n)), fx (vup W 0 1 (.int (nI (n + 1)))) J L (rup R 1 (va_up (R 1) n (some (269 + tl.length)))) ++ (tl ++ brt tl.length kd ln X.length 4 (nI b) (nI c) (-1) nb sd f))) ∧ isCrs kd ln ln' P Q sd X nb ∧ gdP kd ln X ∧ itm kd (srt X) (vlu X) X.length f ∧ frIs V W I J := fun W J X nb f gX h9 hi e => by
    have e4 := c190b (L := L) (R := R) (tl := tl) (N := N) (b := b) (sd := sd) (x2 := nI c) (x3 := -1) (nb := nb) ((f.1 0 1 (by omega) (by omega)).trans b2) hn gX h9
    rw [show (if 0 ≤ nI c then (4 : Int32) else 3) = 4 from if_pos c0] at e4
    exact ⟨W, J, X, nb, _, e.trans e4, hi, gX, itm_f h9.2.2.2.2, f⟩
  have copy : ∀ (W2 : Nat → Nat → Value) (J2 : Nat → Nat → Int32), frIs V W2 I J2 → W2 89 9 = .int nC → fm_190 N (.ref 0) (nI b) (nI c) (-1) sd (fx V I L R ++ tl) = fg_190_95 N (.ref 0) (nI b) (nI c) (-1) sd (.ref (269 + a)) ((-1)) (fx W2 J2 L R ++ tl) → (¬ (kd = kd ∧ (kd = 3 → ln = ln')) ∨ (ln = ln' ∧ cnt (cdP kd P Q) (ncP kd ln ln P.length Q.length) 0 = 0)) → ∃ W J X nb f, fm_190 N (.ref 0) (nI b) (nI c) (-1) sd (fx V I L R ++ tl) = some (.inl (some (.int (nI n)), fx (vup W 0 1 (.int (nI (n + 1)))) J L (rup R 1 (va_up (R 1) n (some (269 + tl.length)))) ++ (tl ++ brt tl.length kd ln X.length 4 (nI b) (nI c) (-1) nb sd f))) ∧ isCrs kd ln ln' P Q sd X nb ∧ gdP kd ln X ∧ itm kd (srt X) (vlu X) X.length f ∧ frIs V W I J := fun W2 J2 k2 w9 ecl hz => by
    obtain ⟨W3, J3, e3, d3, f3⟩ := p60E_90 (V := W2) (I := J2) (L := L) (R := R) (tl := tl) (by omega) hg (q5 W2 J2)
    refine fin W3 J3 P (-1) (frIs_t k2 (frIs_Cg (frM_Cg (frM_9 f3)))) hg d3 (.inl ⟨hz, rfl, rfl⟩) (ecl.trans ?_)
    apply hd_190_95
    exact ev_b (rdR rfl) (ev_i rfl (ev_cI (s187n (by omega) (by decide) w9) (ev_f (fun u => u rfl) (ev_b (rdR rfl) (ev_b (rdR rfl) (ev_i rfl (ev_cV e3 rfl)))))))
  by_cases cm : cmpt kd ln kd ln' P.length Q.length
  case neg =>
    have cz := cn cm
    have e2 : fm_162 N (.ref 89) (fx W1 J1 L R ++ tl) = some (.inl (some (.int 0), fx W1 J1 L R ++ tl)) := by
      obtain ⟨K, rfl⟩ : ∃ k, N = k + 1 := ⟨N - 1, by omega⟩
      exact hm_162 (hd_162_0 (hd_162_4 (ev_b (rdI h9) (ev_t (by rw [cz]; decide) rfl))))
    refine copy W1 J1 i1 h9 (pre 0 W1 J1 _ e2 (by rw [if_pos (show (0 : Int32) ≤ 0 by decide)])) ?_
    by_cases d : kd = kd ∧ (kd = 3 → ln = ln')
    · refine .inr ?_
      have e0 : ln = ln' := by
        by_cases k3 : kd = 3
        · exact d.2 k3
        · rw [gl.2 k3, gl'.2 k3]
      have kk2 : kd = 2 := by
        by_cases k2 : kd = 2
        · exact k2
        · exact absurd ⟨rfl, e0, fun e => absurd e k2⟩ cm
      have hz : ¬ P.length = Q.length := fun e => cm ⟨rfl, e0, fun _ => e⟩
      have en : ncP kd ln ln P.length Q.length = 0 := by subst kk2; exact if_neg hz
      exact ⟨e0, by rw [en]; rfl⟩
    · exact .inl d
  obtain ⟨sp, enc⟩ := cy cm
  have el : ln = ln' := cm.2.1
  subst el
  have nb := ncP_b hg hgq
  obtain ⟨W2, J2, e2, s2, f2⟩ := s162 (L := L) (R := R) (tl := tl) (N := N) (S := SP tl (269 + a) (269 + it) (269 + a') (269 + it') kd ln P Q) (cd := cdP kd P Q) (n := ncP kd ln ln P.length Q.length) nb (.inl enc) (fun _ _ _ _ h f => SP_f h f) (fun V I h c hc => all_mP (by omega) hg hgq h hc) hN sp h9
  have i2 : frIs V W2 I J2 := frIs_t i1 (frIs_Cg (frM_Cg f2))
  have h9' : W2 89 9 = .int nC := (f2.1 89 9 (by decide) (by decide) (by decide) (by decide)).trans h9
  have cmm := cnt_m (cdP kd P Q) (ncP kd ln ln P.length Q.length) 0
  by_cases z0 : cnt (cdP kd P Q) (ncP kd ln ln P.length Q.length) 0 = 0
  · rw [z0] at e2
    exact copy W2 J2 i2 h9' (pre _ W2 J2 _ e2 (by rw [if_pos (show nI 0 ≤ 0 by decide)])) (.inr ⟨rfl, z0⟩)
  obtain ⟨m, em⟩ : ∃ m, m = cnt (cdP kd P Q) (ncP kd ln ln P.length Q.length) 0 := ⟨_, rfl⟩
  rw [← em] at e2 cmm z0
  obtain ⟨y, ey⟩ : ∃ y, y = hlf (nxt sd) % m := ⟨_, rfl⟩
  have ym : y < m := by rw [ey]; exact Nat.mod_lt _ (by omega)
  have s173' : W2 173 0 = .long sd := (f2.1 173 0 (by decide) (by decide) (by decide) (by decide)).trans s173
  have ed := y_192 (I := J2) (L := L) (R := R) (tl := tl) (k := m) s173' (by omega) (by omega)
  rw [← ey] at ed
  obtain ⟨W3, ev3⟩ : ∃ X, X = vup W2 173 0 (.long (nxt sd)) := ⟨_, rfl⟩
  rw [← ev3] at ed
  have i3 : frIs V W3 I J2 := frIs_t i2 ⟨fun a' j' _ h => by rw [ev3]; exact vup_na h, fun _ _ => rfl, fun w' => by rw [ev3]; exact wt_lg w' (by decide)⟩
  obtain ⟨W4, J4, bb, e4, i4, d4, s4, f4⟩ := s187 (L := L) (R := R) (tl := tl) (N := N) (S := SP tl (269 + a) (269 + it) (269 + a') (269 + it') kd ln P Q) (cd := cdP kd P Q) (n := ncP kd ln ln P.length Q.length) (V := W3) (I := J2) (y := y) nb (.inl enc) (fun _ _ _ _ h f => SP_f h f) (fun V I h c hc => all_mP (by omega) hg hgq h hc) hN (by omega) (by rw [ev3]; exact SP_173 (by omega) (by omega) s2) (by rw [ev3]; exact h9')
  rw [← em] at i4
  have bt : bb = true := i4.mpr ym
  subst bt
  obtain ⟨d, X, dl, dq, dc, dh, d60⟩ := d4 rfl
  refine fin W4 J4 X (nI y) (frIs_t i3 (frIs_Cg (frM_Cg f4))) (cdP_gd hg hgq dl dq) dh (.inr ⟨rfl, m, y, d, em, by omega, ey, dl, dq, dc, rfl⟩) (pre _ W2 J2 _ e2 (ev_f (nI_ge (a := 0) (by omega) (by omega)) (ev_b (rdR rfl) (ev_i rfl (ev_cI ed ?_)))))
  apply hd_190_95
  exact ev_b (rdR rfl) (ev_i rfl (ev_cI e4 (ev_t (by decide) rfl)))
