/-! ===== change, the end ===== -/
set_option maxRecDepth 100000 in
set_option maxHeartbeats 4000000 in
theorem u_29 {V : Nat → Nat → Value} {I : Nat → Nat → Int32} {L : Nat → Nat → Int64} {R : Nat → Nat → Option Nat} {tl : am_H} {n p j : Nat} (hr : rel V I L R tl n p) (hm : room tl n p j) {N : Nat} (hN : 5000 < N) (a1 a2 : Int32) (sd : Int64) : ∃ h', opBI (fm_188 N (.ref 0) a1 a2 sd (.ref 268) (fx V I L R ++ tl)) (fun h1 => fm_470 N (.ref 174) a1 a2 sd h1) vfI h' ∧ invW (j + 1) h' := by
  obtain ⟨b1, b2, b3⟩ := hr.1
  have hwt := rel_w hr
  have err : ∀ (x y : Int32) (c : Nat), (c = 1 ∨ c = 2 ∨ c = 3) → fm_188 N (.ref 0) x y sd (.ref 268) (fx V I L R ++ tl) = some (.inl (some (.int (nI c)), fx V I L R ++ (tl ++ [am_dummy]))) → (∀ t : am_H, fm_470 N (.ref 174) x y sd (fx V I L R ++ t) = fg_470_41 N (.ref 174) x y sd (.ref 174) (nI c) (fx V I L R ++ t)) → ∃ h', opBI (fm_188 N (.ref 0) x y sd (.ref 268) (fx V I L R ++ tl)) (fun h1 => fm_470 N (.ref 174) x y sd h1) vfI h' ∧ invW (j + 1) h' := fun x y c hc e er => by
    refine ⟨_, opBI_err (c := nI c) (b := 0) (by rcases hc with rfl | rfl | rfl <;> decide) (tl := tl ++ [am_dummy]) e ?_, inv_mk (rel_thr (nI c) (rel_dum hr)) (room_dum hm)⟩
    refine (er _).trans ?_
    apply hd_470_41
    exact ev_b qp_174_0 (ev_b (a := nI c) rfl (ev_f (by rcases hc with rfl | rfl | rfl <;> decide) rfl))
  rcases dich a1 (n := n) (by omega) with hn | ⟨b, hb, rfl⟩
  · refine err a1 a2 1 (.inl rfl) ?_ (fun t => ?_)
    · have e : fm_189 N (.ref 0) a1 a2 sd (fx V I L R ++ tl) = some (.inr (2, (fx V I L R ++ (tl ++ [am_dummy])))) := by
        apply hm_189
        apply hd_189_0
        refine ev_i rfl ?_
        rw [c_63n b2 hn]
        rfl
      unfold fm_188 fg_188_0
      refine ev_i rfl ?_
      rw [e]
      rfl
    · apply hm_470
      apply hd_470_0
      exact ev_i rfl (ev_cI (r_358n b3 b1 hn) (ev_f (fun u => u rfl) rfl))
  obtain ⟨kd, ln, P, a, it, hg, q1, q2, q3, q4, q5, q6, q7⟩ := bth_E hr hb
  have oA := (srcE_ok (L := L) (R := R) (q5 V I)).2.2.1
  have k3 := hg.1
  rcases dich a2 (n := 5) (by omega) with hn | ⟨w, hw, rfl⟩
  · refine err (nI b) a2 2 (.inr (.inl rfl)) ?_ (fun t => ?_)
    · have e : fm_189 N (.ref 0) (nI b) a2 sd (fx V I L R ++ tl) = some (.inr (0, (fx V I L R ++ (tl ++ [am_dummy])))) := by
        rw [← List.append_assoc]
        apply hm_189
        apply hd_189_0
        refine ev_i rfl (ev_cR (c_63 b2 b1 hb q4) rfl ?_)
        by_cases z : a2 < 0
        · exact ev_t z (hd_189_29 rfl)
        · exact ev_f z (ev_t (Int32.lt_of_lt_of_le (by decide) (hn.resolve_left z)) (hd_189_29 rfl))
      unfold fm_188 fg_188_0
      refine ev_i rfl ?_
      rw [e]
      rfl
    · apply hm_470
      apply hd_470_0
      exact ev_i rfl (ev_cI (r_358 b3 b1 hb) (ev_t (by decide) (ev_i rfl (ev_cI (r_471n hn) (ev_f (fun u => u rfl) rfl)))))
  by_cases w4 : w = 4 ∧ kd ≠ 0
  · refine err (nI b) (nI w) 2 (.inr (.inl rfl)) ?_ (fun t => ?_)
    · have e : fm_189 N (.ref 0) (nI b) (nI w) sd (fx V I L R ++ tl) = some (.inr (0, (fx V I L R ++ (tl ++ [am_dummy])))) := by
        rw [← List.append_assoc]
        apply hm_189
        apply hd_189_0
        refine ev_i rfl (ev_cR (c_63 b2 b1 hb q4) rfl (ev_f (nI_pos (by omega)) (ev_f (nI_nlt (a := 4) (by omega) (by omega)) ?_)))
        rw [w4.1]
        exact ev_f (fun u => u rfl) (ev_b oA (ev_f (fun u => w4.2 ((nI_eq (b := 0) (by omega) (by omega)).mp u)) (hd_189_29 rfl)))
      unfold fm_188 fg_188_0
      refine ev_i rfl ?_
      rw [e]
      rfl
    · apply hm_470
      apply hd_470_0
      refine ev_i rfl (ev_cI (r_358 b3 b1 hb) (ev_t (by decide) (ev_i rfl (ev_cI (r_471 b3 b1 hb q1 k3 hw) ?_))))
      rw [if_pos w4]
      exact ev_f (fun u => u rfl) rfl
  -- the class up to the room
  have c40 : ∀ o, fg_189_40 N (.ref 0) (nI b) (nI w) sd (fx V I L R ++ tl) = o → fm_189 N (.ref 0) (nI b) (nI w) sd (fx V I L R ++ tl) = o := fun o k_ => by
    apply hm_189
    apply hd_189_0
    refine ev_i rfl (ev_cR (c_63 b2 b1 hb q4) rfl (ev_f (nI_pos (by omega)) (ev_f (nI_nlt (a := 4) (by omega) (by omega)) ?_)))
    by_cases z : w = 4
    · have z0 : kd = 0 := Classical.not_not.mp (fun u => w4 ⟨z, u⟩)
      exact ev_f (fun u => u (by rw [z]; rfl)) (ev_b oA (ev_t (by rw [z0]; rfl) k_))
    · exact ev_t (fun u => z ((nI_eq (b := 4) (by omega) (by omega)).mp u)) k_
  by_cases c6 : n = 600
  · subst c6
    refine err (nI b) (nI w) 3 (.inr (.inr rfl)) ?_ (fun t => ?_)
    · have e : fm_189 N (.ref 0) (nI b) (nI w) sd (fx V I L R ++ tl) = some (.inr (1, (fx V I L R ++ (tl ++ [am_dummy])))) := by
        refine c40 _ (hd_189_40 (ev_i rfl ?_))
        rw [c_32n b2]
        rfl
      unfold fm_188 fg_188_0
      refine ev_i rfl ?_
      rw [e]
      rfl
    · apply hm_470
      apply hd_470_0
      refine ev_i rfl (ev_cI (r_358 b3 b1 hb) (ev_t (by decide) (ev_i rfl (ev_cI (r_471 b3 b1 hb q1 k3 hw) ?_))))
      rw [if_neg w4]
      exact ev_t (by decide) (ev_b (rdI b3) (ev_f (fun u => u rfl) rfl))
  have hn : n < 600 := by omega
  obtain ⟨V1, ev1⟩ : ∃ X, X = vup V 173 0 (.long sd) := ⟨_, rfl⟩
  have kv : keep V V1 I I := by rw [ev1]; exact keep_lg (by decide) (by decide)
  -- the class: the seed is set
  have c90 : ∀ o, (if ¬ nI w = 4 then ((am_vR (am_pG 2823 (.ref 0) (fx V1 I L R ++ tl))).bind fun v10 => (if (0 : Int32) ≤ (-1) then (if am_pOk 11 (.ref 0) (fx V1 I L R ++ tl) then am_cR true (fm_63 (.ref 0) (-1) (fx V1 I L R ++ tl)) (fun v14 h15 => (fg_190_63 N (.ref 0) (nI b) (-1) (nI w) sd (.ref (269 + a)) v10 (.ref (269 + a)) v14 h15)) else none) else (fg_190_63 N (.ref 0) (nI b) (-1) (nI w) sd (.ref (269 + a)) v10 (.ref (269 + a)) Value.null (fx V1 I L R ++ tl)))) else ((am_vR (am_pG 2823 (.ref 0) (fx V1 I L R ++ tl))).bind fun v17 => ((am_vR (am_pG 2835 (.ref 0) (fx V1 I L R ++ tl))).bind fun v19 => ((am_vR (am_pG 2822 (.ref 0) (fx V1 I L R ++ tl))).bind fun v21 => (if am_pOk 0 v17 (fx V1 I L R ++ tl) then am_cV true (fm_191 N v17 (.ref (269 + a)) v19 v21 (fx V1 I L R ++ tl)) (fun h25 => (fg_190_121 N (.ref 0) (nI b) (-1) (nI w) sd ((-1)) h25)) else none))))) = o → fm_189 N (.ref 0) (nI b) (nI w) sd (fx V I L R ++ tl) = am_cI true o (fun v6 h7 => some (.inl (some (.int v6), h7))) := fun o k_ => by
    refine c40 _ (hd_189_40 (ev_i rfl (ev_cV (c_32 b2 hn) (ev_i rfl ?_))))
    congr 1
    apply hm_190
    apply hd_190_0
    exact ev_i rfl (ev_cR (c_63 b2 b1 hb q4) rfl (ev_b (rdR rfl) (ev_b (a := fx V1 I L R ++ tl) (by rw [ev1]; exact qp_173_0) k_)))
  have q1' : ∀ (Y : Nat → Nat → Int32), (∀ y, y ∈ iRel → Y y = I y) → Y 175 b = nI kd ∧ Y 176 b = nI P.length ∧ Y 177 b = nI ln ∧ lay2 (fun k => Y 184 (60 * b + k)) (fun k => Y 185 (60 * b + k)) P := fun Y iR => ⟨(congrFun (iR 175 (by decide)) b).trans q1, (congrFun (iR 176 (by decide)) b).trans q2, (congrFun (iR 177 (by decide)) b).trans q3, by rw [iR 184 (by decide), iR 185 (by decide)]; exact q6⟩
  -- the reference, loaded
  have ref0 : ∀ (W2 : Nat → Nat → Value) (J2 : Nat → Nat → Int32) (S : Nat → Nat → Option Nat) (t : am_H), keep V W2 I J2 → ∃ Wa Ja, fm_391 N (.ref 174) (nI b) (fx (vup (vup W2 0 1 (.int (nI (n + 1)))) 174 0 (.int 0)) J2 (outL L (nI n).toInt64) S ++ t) = some (.inl (none, fx Wa Ja (outL L (nI n).toInt64) S ++ t)) ∧ dsE kd ln P Wa Ja ∧ fr39 (vup (vup W2 0 1 (.int (nI (n + 1)))) 174 0 (.int 0)) Wa J2 Ja ∧ keep (vup V 0 1 (.int (nI (n + 1)))) Wa I Ja ∧ Wa 174 0 = .int 0 ∧ Wa 174 1 = .int (nI n) := fun W2 J2 S t k2 => by
    obtain ⟨x1, x2, x3, x4⟩ := q1' J2 k2.2.1
    obtain ⟨Wa, Ja, t1, f3, g20, g19, gds, gsp⟩ := ld_E (V := vup (vup W2 0 1 (.int (nI (n + 1)))) 174 0 (.int 0)) (I := J2) (L := outL L (nI n).toInt64) (R := S) (tl := t) (N := N) (by omega) (by omega) hg x1 x2 x3 x4
    exact ⟨Wa, Ja, t1, ⟨g20, g19, gds, gsp⟩, f3, keep_t (keep_up hwt (by decide) k2) (keep_t keep_0 (keep_39 f3)), (f3.1 174 0 (by decide)).trans vup_eq, (f3.1 174 1 (by decide)).trans ((vup_o (by decide)).trans ((vup_o (by decide)).trans ((k2.1 174 1 (by decide)).trans b3)))⟩
  have l0 : ∀ y, y ∈ lRel → outL L (nI n).toInt64 y = L y := fun y hy => by
    refine lup_na ?_
    have key : ∀ y, y ∈ lRel → y ≠ 268 := by decide
    exact key y hy
  by_cases wf : w = 4
  · -- regrowth
    subst wf
    have z0 : kd = 0 := Classical.not_not.mp (fun u => w4 ⟨rfl, u⟩)
    subst z0
    obtain ⟨rfl, ho, et⟩ := hg.2.2.1 rfl
    have p1 := gdL_1 hg (by decide)
    obtain ⟨T, eT⟩ : ∃ T, T = uTx P := ⟨_, rfl⟩
    rw [← eT] at ho et
    have lT : T.length = P.length := by rw [eT]; exact uTx_len
    have pT : 1 ≤ T.length := by omega
    have hgT : gdP 0 0 (tI T) := by rw [et]; exact hg
    obtain ⟨k, ek⟩ : ∃ k, k = hlf (nxt sd) % T.length := ⟨_, rfl⟩
    have hk : k < T.length := by rw [ek]; exact Nat.mod_lt _ (by omega)
    obtain ⟨tr, etr⟩ : ∃ tr, tr = truN (xS T k) := ⟨_, rfl⟩
    obtain ⟨fl, efl⟩ : ∃ fl, fl = inL (sl T) k := ⟨_, rfl⟩
    have tr1 : tr ≤ 1 := by rw [etr]; unfold truN; split <;> omega
    have fl1 : fl ≤ 1 := by rw [efl]; exact in_le1 _ _
    obtain ⟨c, ec⟩ : ∃ c, c = 2 * fl + tr := ⟨_, rfl⟩
    obtain ⟨n0, en⟩ : ∃ n0, n0 = 1 + hlf (nxt (nxt sd)) % 4 := ⟨_, rfl⟩
    have n0b := Nat.mod_lt (hlf (nxt (nxt sd))) (show 0 < 4 by decide)
    have hz := nz_ex (c := c) (n0 := n0) (by omega) (by omega) (by omega)
    obtain ⟨m, em⟩ : ∃ m, m = nzF c n0 := ⟨_, rfl⟩
    rw [← em] at hz
    have n1 : 1 ≤ m := by have := hz.1; omega
    obtain ⟨r, er⟩ : ∃ r, r = (2147483648 * hlf (nxt (nxt (nxt sd))) + hlf (nxt (nxt (nxt (nxt sd))))) % uT c m := ⟨_, rfl⟩
    have hrr : r < uT c m := by rw [er]; exact Nat.mod_lt _ (Nat.pos_of_ne_zero hz.2.2.1)
    obtain ⟨r1, r2, r3⟩ := hr.2.2.2.2.2.2.2.2.2.2.1
    have sT : srcP V1 I tl (269 + a) (269 + it) 0 0 T := srcE_P (by omega) (by omega) (by rw [lT]; exact hg.2.1) (by rw [et]; exact q5 V1 I)
    obtain ⟨W2, J2, e1, h90, k1⟩ := s191 (V := V1) (I := I) (L := L) (R := R) (tl := tl) (N := N) (A := 269 + a) (it := 269 + it) (P := T) (by omega) (kv.2.2 hwt) sT (by omega) (by omega) ho hgT r1 r2 (by rw [ev1]; exact vup_eq) pT ek etr efl ec en hz er
    obtain ⟨X, eX⟩ : ∃ X, X = (if sndB 0 (tI (T.take k ++ (unX c m r ++ T.drop (xE T k)))) = true then tI (T.take k ++ (unX c m r ++ T.drop (xE T k))) else tI T) := ⟨_, rfl⟩
    rw [← eX] at h90
    have gX : gdP 0 0 X := by
      rw [eX]
      by_cases z : sndB 0 (tI (T.take k ++ (unX c m r ++ T.drop (xE T k)))) = true
      · rw [if_pos z]
        exact rg_gd hgT ho hk n1 hz.2.1 (by omega) hrr (tr := tr) (fl := fl) (by omega) (by omega) z
      · rw [if_neg z]
        exact hgT
    have k2 := keep_t kv k1
    have h8 : rel (vup V 174 80 (.int 1)) I (lup (lup L 224 tC) 225 tS) R tl n p := rel_80 (fun a j h => vup_o h) (fun y h1 h2 _ => by rw [lup_na h2, lup_na h1]) (.inr ⟨vup_eq, rfl, rfl⟩) (wt_i hwt (by decide)) hr
    refine fin_29 (V0 := vup V 174 80 (.int 1)) (L0 := lup (lup L 224 tC) 225 tS) (X := X) (nb := -1) (W2 := W2) (J2 := J2) (kd0 := 0) hr h8 hm hN hb hn gX k2 (c90 _ (ev_f (fun u => u rfl) (ev_b (rdR rfl) (ev_b (rdR rfl) (ev_b (rdR rfl) (ev_i rfl (ev_cV e1 rfl))))))) h90 (by omega) q1 (by omega) (fun u => u.2 rfl) ⟨3, by decide, rfl, .inr ⟨b, hb, rfl⟩, .inl rfl, fun _ => nI_nm1 (by omega), fun h => absurd h (by decide), fun _ => ⟨rfl, 4, by omega, rfl⟩, .inl rfl⟩ ⟨fun _ _ => ⟨b, hb, rfl, q1⟩, fun e => absurd e (by decide), fun _ w' j' hw' hj' _ e2 => absurd e2 (nI_m1d hj'), fun e => absurd e (by decide)⟩ (fun S t => ?_)
    obtain ⟨Wa, Ja, t1, hd1, f1, ka, a0, a1⟩ := ref0 W2 J2 S t k2
    obtain ⟨Wb, eb⟩ : ∃ X, X = vup (vup Wa 174 96 (.long sd)) 174 97 (.int (-1)) := ⟨_, rfl⟩
    have vb : ∀ a' j', ¬ (a' = 174 ∧ (j' = 96 ∨ j' = 97)) → Wb a' j' = Wa a' j' := fun a' j' h => by rw [eb, vup_o (fun u => h ⟨u.1, .inr u.2⟩), vup_o (fun u => h ⟨u.1, .inl u.2⟩)]
    have wb : wt Wb := by rw [eb]; exact wt_i (wt_lg (ka.2.2 (wt_i hwt (by decide))) (by decide)) (by decide)
    have hA : rA Wb Ja 0 T := ⟨(vb 174 20 (by decide)).trans hd1.1, (vb 174 19 (by decide)).trans hd1.2.1, ⟨(vb 174 18 (by decide)).trans (by rw [et]; exact hd1.2.2.1.1), by rw [et]; exact hd1.2.2.1.2⟩, fun k hk => by rw [eT]; exact hd1.2.2.2 rfl k (by rw [← lT]; exact hk), by rw [lT]; exact hg.2.1⟩
    have e80 : Wb 174 80 = V 174 80 := (vb 174 80 (by decide)).trans ((ka.1 174 80 (by decide)).trans (vup_o (by decide)))
    have iv : rInv Wb (outL L (nI n).toInt64) := rInv_v e80 (by
      rcases r3 with ⟨h1, h2, h3⟩ | ⟨h1, h2, h3⟩
      · exact .inl ⟨h1, h2, h3⟩
      · exact .inr ⟨h1, h2, h3⟩)
    obtain ⟨W, J, M, e4, d4, d13, d15, fv, fj, fm, w80, m4, m5, ww⟩ := r_473 (V := Wb) (I := Ja) (L := outL L (nI n).toInt64) (R := S) (tl := t) (N := N) (P := T) (nt := 0) hN wb hA ho iv (by rw [eb]; exact (vup_nj (by decide)).trans vup_eq) pT ek etr efl ec en hz er
    rw [← eX] at d4
    have d97 : W 174 97 = .int (-1) := (fv 174 97 (by decide)).trans (by rw [eb]; exact vup_eq)
    refine ⟨Wa, Ja, W, J, M, t1, ?_, ⟨fun a' j' hj => ?_, fun y hy => ?_, fun _ => ww⟩, d4, d13, d15, d97, (fv 174 0 (by decide)).trans ((vb 174 0 (by decide)).trans a0), (fv 174 1 (by decide)).trans ((vb 174 1 (by decide)).trans a1), fun y hy => ?_, ?_⟩
    · apply hm_472
      apply hd_472_0
      exact ev_b qp_174_96 (ev_b (a := fx Wb Ja (outL L (nI n).toInt64) S ++ t) (by rw [eb]; exact qp_174_97) (ev_f (fun u => u rfl) (ev_i rfl (ev_cV e4 rfl))))
    · by_cases z : a' = 174 ∧ j' = 80
      · obtain ⟨z1, z2⟩ := z
        subst z1
        subst z2
        rw [w80, vup_o (by decide)]
        exact vup_eq.symm
      · have nr : a' = 174 → j' ≠ 13 ∧ j' ≠ 14 ∧ j' ≠ 15 ∧ j' ≠ 88 ∧ j' ≠ 96 ∧ j' ≠ 97 := fun e => by
          subst e
          have key : ∀ j, j ∈ vRel 174 → j ≠ 13 ∧ j ≠ 14 ∧ j ≠ 15 ∧ j ≠ 88 ∧ j ≠ 96 ∧ j ≠ 97 := by decide
          exact key j' hj
        rw [fv a' j' (fun u => by have := nr u.1; have := fun h => z ⟨u.1, h⟩; omega), vb a' j' (fun u => by have := nr u.1; omega), ka.1 a' j' hj]
        by_cases z2 : a' = 0 ∧ j' = 1
        · rw [z2.1, z2.2, vup_eq, vup_eq]
        · rw [vup_o z2, vup_o z2, vup_o z]
    · have key : ∀ y, y ∈ iRel → ¬ y ∈ [186, 187, 194, 195, 196, 211, 227, 228, 229] := by decide
      rw [fj y (key y hy)]
      exact ka.2.1 y hy
    · have key : ∀ y, y ∈ lRel → y ≠ 226 ∧ y ≠ 230 := by decide
      by_cases z1 : y = 224
      · subst z1
        rw [m4, lup_na (by decide), lup_eq]
      · by_cases z2 : y = 225
        · subst z2
          rw [m5, lup_eq]
        · rw [fm y z1 z2 (key y hy).1 (key y hy).2, lup_na z2, lup_na z1]
          exact l0 y hy
    · rw [fm 268 (by decide) (by decide) (by decide) (by decide)]
      exact outL_at
  -- the other ways
  have w3 : w < 4 := by omega
  obtain ⟨W1, J1, nC, e1, s1, h9, hC, f1⟩ := beg_E (V := V1) (I := I) (L := L) (R := R) (tl := tl) (N := N) (by omega) hg w3 (kv.2.2 hwt) (q5 V1 I) (by omega) (by omega)
  have nb := ncE_b hg w3
  have k1 := keep_t kv (keep_Cg f1)
  obtain ⟨W2, J2, e2, s2, f2⟩ := s162 (L := L) (R := R) (tl := tl) (N := N) (S := SE tl (269 + a) (269 + it) kd ln w P) (cd := cdE kd ln P w) nb hC (fun _ _ _ _ h f => SE_f h f) (fun V I h c hc => all_m (by omega) hg w3 h hc) hN s1 h9
  have k2 : keep V W2 I J2 := keep_t k1 (keep_Cg (frM_Cg f2))
  obtain ⟨m, em⟩ : ∃ m, m = cnt (cdE kd ln P w) (ncE kd ln P.length w) 0 := ⟨_, rfl⟩
  rw [← em] at e2
  have cm := cnt_m (cdE kd ln P w) (ncE kd ln P.length w) 0
  rw [← em] at cm
  have h9' : W2 89 9 = .int nC := (f2.1 89 9 (by omega) (by decide) (by decide) (by decide)).trans h9
  have pre : ∀ o, (if nI m ≤ 0 then (fg_190_95 N (.ref 0) (nI b) (-1) (nI w) sd (.ref (269 + a)) ((-1)) (fx W2 J2 L R ++ tl)) else ((am_vR (am_pG 2835 (.ref 0) (fx W2 J2 L R ++ tl))).bind fun v12 => (if am_pOk 8 v12 (fx W2 J2 L R ++ tl) then am_cI true (fm_192 v12 (nI m) (fx W2 J2 L R ++ tl)) (fun v15 h16 => (fg_190_95 N (.ref 0) (nI b) (-1) (nI w) sd (.ref (269 + a)) v15 h16)) else none))) = o → fm_189 N (.ref 0) (nI b) (nI w) sd (fx V I L R ++ tl) = am_cI true o (fun v6 h7 => some (.inl (some (.int v6), h7))) := fun o k_ => by
    refine c90 _ (ev_t (fun u => wf ((nI_eq (b := 4) (by omega) (by omega)).mp u)) (ev_b (rdR rfl) (ev_f (by decide) ?_)))
    apply hd_190_63
    exact ev_i rfl (ev_cI e1 (ev_b (rdR rfl) (ev_i rfl (ev_cI e2 k_))))
  -- the reference: how many
  have refm : ∀ (Wx : Nat → Nat → Value) (Jx : Nat → Nat → Int32) (S : Nat → Nat → Option Nat) (t : am_H), keep V Wx I Jx → ∃ Wa Ja Wc Jc, fm_391 N (.ref 174) (nI b) (fx (vup (vup Wx 0 1 (.int (nI (n + 1)))) 174 0 (.int 0)) Jx (outL L (nI n).toInt64) S ++ t) = some (.inl (none, fx Wa Ja (outL L (nI n).toInt64) S ++ t)) ∧ dsE kd ln P Wc Jc ∧ keep (vup V 0 1 (.int (nI (n + 1)))) Wc I Jc ∧ Wc 174 0 = .int 0 ∧ Wc 174 1 = .int (nI n) ∧ Wc 174 96 = .long sd ∧ Wc 174 97 = .int (-1) ∧ ∀ o, (if ¬ nI m = 0 then (if am_pOk 12 (.ref 174) (fx Wc Jc (outL L (nI n).toInt64) S ++ t) then am_cI true (fm_474 (.ref 174) (nI m) (fx Wc Jc (outL L (nI n).toInt64) S ++ t)) (fun v12 h13 => ((am_pP 3169 (.ref 174) (.int v12) h13).bind fun h15 => ((am_vI (am_pG 3169 (.ref 174) h15)).bind fun v17 => (if am_pOk 12 (.ref 174) h15 then am_cI true (fm_439 N (.ref 174) (nI w) v17 h15) (fun v20 h21 => some (.inl (none, h21))) else none)))) else none) else (if am_pOk 12 (.ref 174) (fx Wc Jc (outL L (nI n).toInt64) S ++ t) then am_cV true (fm_442 N (.ref 174) (fx Wc Jc (outL L (nI n).toInt64) S ++ t)) (fun h25 => some (.inl (none, h25))) else none)) = o → fm_472 N (.ref 174) (nI w) sd (fx Wa Ja (outL L (nI n).toInt64) S ++ t) = o := fun Wx Jx S t kx => by
    obtain ⟨Wa, Ja, t1, hd1, f3, ka, a0, a1⟩ := ref0 Wx Jx S t kx
    obtain ⟨Wb, eb⟩ : ∃ X, X = vup (vup Wa 174 96 (.long sd)) 174 97 (.int (-1)) := ⟨_, rfl⟩
    have kb : keep Wa Wb Ja Ja := by rw [eb]; exact keep_t (keep_lg (by decide) (by decide)) (keep_v (a := 174) (j := 97) (by decide) (by decide))
    have vb : ∀ j', j' ≠ 96 → j' ≠ 97 → Wb 174 j' = Wa 174 j' := fun j' h1 h2 => by rw [eb, vup_o (fun u => h2 u.2), vup_o (fun u => h1 u.2)]
    have hdb : dsE kd ln P Wb Ja := dsE_c hd1 ⟨vb 18 (by decide) (by decide), vb 19 (by decide) (by decide), vb 20 (by decide) (by decide)⟩ ⟨rfl, rfl, rfl⟩
    have kab := keep_t ka kb
    obtain ⟨Wc, Jc, x, t5, o, hx, hdc, kc, kp⟩ := rE_439k (V := Wb) (I := Ja) (L := outL L (nI n).toInt64) (R := S) (tl := t) (N := N) (so := -1) (by omega) hg w3 hdb (kab.2.2 (wt_i hwt (by decide)))
    have ex : x = nI m := by
      rcases o with ⟨-, -, d, X, d1, -, d3, -⟩ | ⟨-, o2, -⟩
      · exact absurd d3 (nI_m1c (by have := cnt_m (cdE kd ln P w) d 0; omega))
      · rw [hx] at o2
        injection o2 with o2
        rw [o2, em]
    subst ex
    have kp' : ∀ j', j' ≠ 13 → j' ≠ 14 → j' ≠ 15 → j' ≠ 93 → j' ≠ 94 → j' ≠ 95 → Wc 174 j' = Wb 174 j' := kp
    refine ⟨Wa, Ja, Wc, Jc, t1, hdc, keep_t kab kc, (kp' 0 (by decide) (by decide) (by decide) (by decide) (by decide) (by decide)).trans ((vb 0 (by decide) (by decide)).trans a0), (kp' 1 (by decide) (by decide) (by decide) (by decide) (by decide) (by decide)).trans ((vb 1 (by decide) (by decide)).trans a1), (kp' 96 (by decide) (by decide) (by decide) (by decide) (by decide) (by decide)).trans (by rw [eb]; exact (vup_nj (by decide)).trans vup_eq), (kp' 97 (by decide) (by decide) (by decide) (by decide) (by decide) (by decide)).trans (by rw [eb]; exact vup_eq), fun o k_ => ?_⟩
    apply hm_472
    apply hd_472_0
    exact ev_b qp_174_96 (ev_b (a := fx Wb Ja (outL L (nI n).toInt64) S ++ t) (by rw [eb]; exact qp_174_97) (ev_t (fun u => wf ((nI_eq (b := 4) (by omega) (by omega)).mp u)) (ev_i rfl (ev_cI t5 k_))))
  have nk : ¬ (w = 4 ∧ kd ≠ 0) := fun u => wf u.1
  have pd : ∀ x : Int32, (x = -1 ∨ ∃ y, y < 1000000 ∧ x = nI y) → ped n 3 (nI b) (-1) (nI w) x := fun x hx => ⟨3, by decide, rfl, .inr ⟨b, hb, rfl⟩, .inl rfl, fun _ => nI_nm1 (by omega), fun h => absurd h (by decide), fun _ => ⟨rfl, w, by omega, rfl⟩, hx⟩
  by_cases z0 : m = 0
  · -- nothing to draw from: the parent again
    obtain ⟨W3, J3, e3, d3, f3⟩ := p60E_90 (V := W2) (I := J2) (L := L) (R := R) (tl := tl) (by omega) hg (q5 W2 J2)
    have k3' : keep V W3 I J3 := keep_t k2 (keep_Cg (frM_Cg (frM_9 f3)))
    refine fin_29 (V0 := V) (L0 := L) (X := P) (nb := -1) (W2 := W3) (J2 := J3) (kd0 := kd) hr hr hm hN hb hn hg k3' (pre _ (ev_t (by rw [z0]; decide) ?_)) d3 (by omega) q1 k3 nk (pd _ (.inl rfl)) ⟨fun _ e => absurd ((nI_eq (b := 4) (by omega) (by omega)).mp e) wf, fun e => absurd e (by decide), fun _ w' j' hw' hj' _ e2 => absurd e2 (nI_m1d hj'), fun e => absurd e (by decide)⟩ (fun S t => ?_)
    · apply hd_190_95
      exact ev_b (rdR rfl) (ev_i rfl (ev_cI (s187n (by omega) (by decide) h9') (ev_f (fun u => u rfl) (ev_b (rdR rfl) (ev_b (rdR rfl) (ev_i rfl (ev_cV e3 rfl)))))))
    · obtain ⟨Wa, Ja, Wc, Jc, t1, hdc, kc, c0, c1, c96, c97, go⟩ := refm W3 J3 S t k3'
      obtain ⟨W6, J6, t6, x1, x2, x3, f6⟩ := s442 (V := Wc) (I := Jc) (L := outL L (nI n).toInt64) (R := S) (tl := t) (N := N) (by omega) hdc.1 hdc.2.1 hdc.2.2.1 (by have := hg.2.1; omega)
      exact ⟨Wa, Ja, W6, J6, outL L (nI n).toInt64, t1, go _ (ev_f (fun u => u (by rw [z0]; rfl)) (ev_i rfl (ev_cV t6 rfl))), keep_t kc (keep_Ed f6), x1, x2, x3, (f6.1 174 97 (by decide)).trans c97, (f6.1 174 0 (by decide)).trans c0, (f6.1 174 1 (by decide)).trans c1, l0, outL_at⟩
  -- one is drawn
  obtain ⟨y, ey⟩ : ∃ y, y = hlf (nxt sd) % m := ⟨_, rfl⟩
  have ym : y < m := by rw [ey]; exact Nat.mod_lt _ (by omega)
  have s173' : W2 173 0 = .long sd := (f2.1 173 0 (by omega) (by decide) (by decide) (by decide)).trans ((f1.1 173 0 (by omega)).trans (by rw [ev1]; exact vup_eq))
  have ed := y_192 (I := J2) (L := L) (R := R) (tl := tl) (k := m) s173' (by omega) (by omega)
  rw [← ey] at ed
  obtain ⟨W3, ev3⟩ : ∃ X, X = vup W2 173 0 (.long (nxt sd)) := ⟨_, rfl⟩
  rw [← ev3] at ed
  have k3' : keep V W3 I J2 := keep_t k2 (by rw [ev3]; exact keep_lg (by decide) (by decide))
  obtain ⟨W4, J4, bb, e4, i4, d4, s4, f4⟩ := s187 (L := L) (R := R) (tl := tl) (N := N) (S := SE tl (269 + a) (269 + it) kd ln w P) (cd := cdE kd ln P w) (n := ncE kd ln P.length w) (V := W3) (I := J2) (y := y) nb hC (fun _ _ _ _ h f => SE_f h f) (fun V I h c hc => all_m (by omega) hg w3 h hc) hN (by omega) (by rw [ev3]; exact SE_173 (by omega) s2) (by rw [ev3]; exact h9')
  rw [← em] at i4
  have bt : bb = true := i4.mpr ym
  subst bt
  obtain ⟨d, X, dl, dq, dc, dh, d60⟩ := d4 rfl
  have gX := cdE_gd hg w3 dl dq
  have k4 : keep V W4 I J4 := keep_t k3' (keep_Cg (frM_Cg f4))
  refine fin_29 (V0 := V) (L0 := L) (X := X) (nb := nI y) (W2 := W4) (J2 := J4) (kd0 := kd) hr hr hm hN hb hn gX k4 (pre _ (ev_f (nI_ge (a := 0) (by omega) (by omega)) (ev_b (rdR rfl) (ev_i rfl (ev_cI ed ?_))))) dh (by omega) q1 k3 nk (pd _ (.inr ⟨y, by omega, rfl⟩)) (gen_3 hb b1 w3 (by omega) hg q1 q2 q3 q7 (by rw [← em]; exact ym)) (fun S t => ?_)
  · apply hd_190_95
    exact ev_b (rdR rfl) (ev_i rfl (ev_cI e4 (ev_t (by decide) rfl)))
  obtain ⟨Wa, Ja, Wc, Jc, t1, hdc, kc, c0, c1, c96, c97, go⟩ := refm W4 J4 S t k4
  have t6 := x_474 (V := Wc) (I := Jc) (L := outL L (nI n).toInt64) (R := S) (tl := t) (k := m) c96 (by omega) (by omega)
  rw [← ey] at t6
  obtain ⟨U6, eu6⟩ : ∃ X, X = vup (vup Wc 174 96 (.long (nxt sd))) 174 97 (.int (nI y)) := ⟨_, rfl⟩
  have kk6 : keep Wc U6 Jc Jc := by rw [eu6]; exact keep_t (keep_lg (by decide) (by decide)) (keep_v (a := 174) (j := 97) (by decide) (by decide))
  have kp6 : ∀ j, j ≠ 96 → j ≠ 97 → U6 174 j = Wc 174 j := fun j h1 h2 => by rw [eu6, vup_o (fun e => h2 e.2), vup_o (fun e => h1 e.2)]
  have hd6 : dsE kd ln P U6 Jc := dsE_c hdc ⟨kp6 18 (by decide) (by decide), kp6 19 (by decide) (by decide), kp6 20 (by decide) (by decide)⟩ ⟨rfl, rfl, rfl⟩
  have kc6 := keep_t kc kk6
  obtain ⟨U7, K7, x7, t7, o7, hx7, hd7, kk7, kp7⟩ := rE_439k (V := U6) (I := Jc) (L := outL L (nI n).toInt64) (R := S) (tl := t) (N := N) (so := nI y) (by omega) hg w3 hd6 (kc6.2.2 (wt_i hwt (by decide)))
  have kp7' : ∀ j', j' ≠ 13 → j' ≠ 14 → j' ≠ 15 → j' ≠ 93 → j' ≠ 94 → j' ≠ 95 → U7 174 j' = U6 174 j' := kp7
  rcases o7 with ⟨-, -, d', X', d1, d2, d3, d4', d5, d6⟩ | ⟨-, -, -, o4⟩
  case inr => exact absurd (o4 y (by omega) rfl) (by omega)
  have eyc := (nI_eq (by omega) (by have := cnt_m (cdE kd ln P w) d' 0; omega)).mp d3
  have ecd : d' = d := cnt_u (cd := cdE kd ln P w) (by rw [d2]; rfl) (by rw [dq]; rfl) (by omega)
  subst ecd
  have eX : X' = X := by rw [dq] at d2; exact (Option.some.inj d2).symm
  subst eX
  have h97 : U6 174 97 = .int (nI y) := by rw [eu6]; exact vup_eq
  refine ⟨Wa, Ja, U7, K7, outL L (nI n).toInt64, t1, go _ ?_, keep_t kc6 kk7, d4', d5, d6, (kp7' 97 (by decide) (by decide) (by decide) (by decide) (by decide) (by decide)).trans h97, (kp7' 0 (by decide) (by decide) (by decide) (by decide) (by decide) (by decide)).trans ((kp6 0 (by decide) (by decide)).trans c0), (kp7' 1 (by decide) (by decide) (by decide) (by decide) (by decide) (by decide)).trans ((kp6 1 (by decide) (by decide)).trans c1), l0, outL_at⟩
  exact ev_t (fun u => z0 ((nI_eq (b := 0) (by omega) (by decide)).mp u)) (ev_i rfl (ev_cI t6 (ev_b (a := fx U6 Jc (outL L (nI n).toInt64) S ++ t) (by rw [eu6]; exact qp_174_97) (ev_b (rdI h97) (ev_i rfl (ev_cI t7 rfl))))))
