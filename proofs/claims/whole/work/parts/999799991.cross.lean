/-! ===== cross(a, b, seed) ===== -/
set_option maxRecDepth 100000 in
set_option maxHeartbeats 4000000 in
theorem y_193 {V : Nat → Nat → Value} {I : Nat → Nat → Int32} {L : Nat → Nat → Int64} {R : Nat → Nat → Option Nat} {tl : am_H} {st : Int64} (hs : V 173 0 = .long st) : fm_193 (.ref 173) (fx V I L R ++ tl) = some (.inl (some (.long (lN (hlf (nxt st)))), fx (vup V 173 0 (.long (nxt st))) I L R ++ tl)) := by
  unfold fm_193 fg_193_0
  refine ev_b (a := st) (by show am_vL (some (V 173 0)) = _; rw [hs]; rfl) ?_
  refine ev_b (a := fx (vup V 173 0 (.long (nxt st))) I L R ++ tl) (ev_p rfl rfl rfl rfl) ?_
  refine ev_b (a := nxt st) rfl ?_
  rw [hlf_u]
set_option maxRecDepth 100000 in
set_option maxHeartbeats 4000000 in
theorem y_192 {V : Nat → Nat → Value} {I : Nat → Nat → Int32} {L : Nat → Nat → Int64} {R : Nat → Nat → Option Nat} {tl : am_H} {st : Int64} {k : Nat} (hs : V 173 0 = .long st) (hk : 1 ≤ k) (hk2 : k < 2 ^ 31) : fm_192 (.ref 173) (nI k) (fx V I L R ++ tl) = some (.inl (some (.int (nI (hlf (nxt st) % k))), fx (vup V 173 0 (.long (nxt st))) I L R ++ tl)) := by
  have hh := hlf_lt (nxt st)
  unfold fm_192 fg_192_0
  refine ev_i rfl ?_
  refine ev_cL (y_193 hs) ?_
  refine ev_f (nI_nle (by omega) hk2) ?_
  rw [nI_l hk2]
  refine ev_i (fun e9 => absurd ((lM_le (b := 0) (by omega) (by omega)).mp (Int64.le_of_eq e9)) (by omega)) ?_
  rw [lM_mod (by omega) (by omega), lN_i]
  rfl
set_option maxRecDepth 100000 in
set_option maxHeartbeats 4000000 in
theorem y_194 {V : Nat → Nat → Value} {I : Nat → Nat → Int32} {L : Nat → Nat → Int64} {R : Nat → Nat → Option Nat} {tl : am_H} {st : Int64} {T : Nat} (hs : V 173 0 = .long st) (hT : 1 ≤ T) (hT2 : T < 2 ^ 50) : fm_194 (.ref 173) (lN T) (fx V I L R ++ tl) = some (.inl (some (.long (lN ((2147483648 * hlf (nxt st) + hlf (nxt (nxt st))) % T))), fx (vup V 173 0 (.long (nxt (nxt st)))) I L R ++ tl)) := by
  have h1 := hlf_lt (nxt st)
  have h2 := hlf_lt (nxt (nxt st))
  unfold fm_194 fg_194_0
  refine ev_i rfl ?_
  refine ev_cL (y_193 hs) ?_
  refine ev_i rfl ?_
  refine ev_cL (y_193 vup_eq) ?_
  refine ev_f (fun e9 => absurd ((lM_le (b := 0) (by omega) (by omega)).mp ((lg_cmp_le _ _).mp e9)) (by omega)) ?_
  refine ev_i (fun e9 => absurd ((lM_le (b := 0) (by omega) (by omega)).mp (Int64.le_of_eq e9)) (by omega)) ?_
  rw [show (2147483648 : Int64) = lN 2147483648 from rfl, lN_mul, lN_add, lM_mod (by omega) (by omega), vup_2]
  rfl
theorem nI_m1d {p : Nat} (h : p < 1000000) : ¬ (-1 : Int32) = nI p := fun e => by
  have e2 := congrArg Int32.toInt e
  rw [nI_toInt (by omega), show (-1 : Int32).toInt = -1 by decide] at e2
  omega
theorem gen_4 {I : Nat → Nat → Int32} {n b c kd ln : Nat} {P Q : xI} {nb : Int32} (hb : b < n) (hc : c < n) (hn : n ≤ 600) (hg : gdP kd ln P) (hgq : gdP kd ln Q) (q1 : I 175 b = nI kd) (q2 : I 176 b = nI P.length) (q3 : I 177 b = nI ln) (hp : P = prgI I b P.length) (r1 : I 175 c = nI kd) (r2 : I 176 c = nI Q.length) (r3 : I 177 c = nI ln) (hq : Q = prgI I c Q.length) (hy : ∀ y, y < 1000000 → nb = nI y → y < cnt (cdP kd P Q) (ncP kd ln ln P.length Q.length) 0) : gen1 I n 4 (nI b) (nI c) (-1) nb := by
  refine ⟨fun e => absurd e (by decide), fun _ => ⟨b, c, hb, hc, rfl, rfl, q1.trans r1.symm⟩, fun e => absurd e (by decide), fun _ j hj e => ?_⟩
  exact ⟨b, c, kd, ln, ln, P.length, Q.length, hb, hc, rfl, rfl, hg.1, hg.2.1, hgq.2.1, gd_l8 hg, gd_l8 hg, q1, r1, q2, q3, r2, r3, by rw [← hp, ← hq]; exact hy j hj e⟩
set_option maxRecDepth 100000 in
set_option maxHeartbeats 4000000 in
theorem u_31 {V : Nat → Nat → Value} {I : Nat → Nat → Int32} {L : Nat → Nat → Int64} {R : Nat → Nat → Option Nat} {tl : am_H} {n p j : Nat} (hr : rel V I L R tl n p) (hm : room tl n p j) {N : Nat} (hN : 5000 < N) (a1 a2 : Int32) (sd : Int64) : ∃ h', opBI (fm_197 N (.ref 0) a1 a2 sd (.ref 268) (fx V I L R ++ tl)) (fun h1 => fm_486 N (.ref 174) a1 a2 sd h1) vfI h' ∧ invW (j + 1) h' := by
  obtain ⟨b1, b2, b3⟩ := hr.1
  have hwt := rel_w hr
  have err : ∀ (x y : Int32) (k c : Nat), (c = 1 ∨ c = 2 ∨ c = 3) → fm_197 N (.ref 0) x y sd (.ref 268) (fx V I L R ++ tl) = some (.inl (some (.int (nI c)), fx V I L R ++ (tl ++ [am_dummy]))) → (∀ t : am_H, fm_486 N (.ref 174) x y sd (fx V I L R ++ t) = fg_486_55 N (.ref 174) x y sd (.ref 174) (nI c) (fx V I L R ++ t)) → ∃ h', opBI (fm_197 N (.ref 0) x y sd (.ref 268) (fx V I L R ++ tl)) (fun h1 => fm_486 N (.ref 174) x y sd h1) vfI h' ∧ invW (j + 1) h' := fun x y k c hc e er => by
    refine ⟨_, opBI_err (c := nI c) (b := 0) (by rcases hc with rfl | rfl | rfl <;> decide) (tl := tl ++ [am_dummy]) e ?_, inv_mk (rel_thr (nI c) (rel_dum hr)) (room_dum hm)⟩
    refine (er _).trans ?_
    apply hd_486_55
    exact ev_b qp_174_0 (ev_b (a := nI c) rfl (ev_f (by rcases hc with rfl | rfl | rfl <;> decide) rfl))
  rcases dich a1 (n := n) (by omega) with hn | ⟨b, hb, rfl⟩
  · refine err a1 a2 0 1 (.inl rfl) ?_ (fun t => ?_)
    · have e : fm_198 N (.ref 0) a1 a2 sd (fx V I L R ++ tl) = some (.inr (2, (fx V I L R ++ (tl ++ [am_dummy])))) := by
        apply hm_198
        apply hd_198_0
        refine ev_i rfl ?_
        rw [c_63n b2 hn]
        rfl
      unfold fm_197 fg_197_0
      refine ev_i rfl ?_
      rw [e]
      rfl
    · apply hm_486
      apply hd_486_0
      exact ev_i rfl (ev_cI (r_358n b3 b1 hn) (ev_t rfl (hd_486_17 rfl)))
  obtain ⟨kd, ln, P, a, it, hg, q1, q2, q3, q4, q5, q6, q7⟩ := bth_E hr hb
  have oA := (srcE_ok (L := L) (R := R) (q5 V I)).2.2.1
  rcases dich a2 (n := n) (by omega) with hn | ⟨c, hc, rfl⟩
  · refine err (nI b) a2 0 1 (.inl rfl) ?_ (fun t => ?_)
    · have e : fm_198 N (.ref 0) (nI b) a2 sd (fx V I L R ++ tl) = some (.inr (2, (fx V I L R ++ (tl ++ [am_dummy])))) := by
        apply hm_198
        apply hd_198_0
        refine ev_i rfl (ev_cR (c_63 b2 b1 hb q4) rfl (ev_b oA (ev_i rfl ?_)))
        rw [c_63n b2 hn]
        rfl
      unfold fm_197 fg_197_0
      refine ev_i rfl ?_
      rw [e]
      rfl
    · apply hm_486
      apply hd_486_0
      exact ev_i rfl (ev_cI (r_358 b3 b1 hb) (ev_f (by decide) (ev_i rfl (ev_cI (r_358n b3 b1 hn) (ev_f (fun u => u rfl) (hd_486_17 rfl))))))
  obtain ⟨kd', ln', Q, a', it', hgq, r1, r2, r3, r4, r5, r6, r7⟩ := bth_E hr hc
  have oB := (srcE_ok (L := L) (R := R) (r5 V I)).2.2.1
  have k3 := hg.1
  have k3' := hgq.1
  by_cases ek : kd = kd'
  case neg =>
    have nk : ¬ nI kd = nI kd' := fun u => ek ((nI_eq (by omega) (by omega)).mp u)
    refine err (nI b) (nI c) 0 2 (.inr (.inl rfl)) ?_ (fun t => ?_)
    · have e : fm_198 N (.ref 0) (nI b) (nI c) sd (fx V I L R ++ tl) = some (.inr (0, (fx V I L R ++ (tl ++ [am_dummy])))) := by
        apply hm_198
        apply hd_198_0
        exact ev_i rfl (ev_cR (c_63 b2 b1 hb q4) rfl (ev_b oA (ev_i rfl (ev_cR (c_63 b2 b1 hc r4) rfl (ev_b oB (ev_f nk (by rw [List.append_assoc])))))))
      unfold fm_197 fg_197_0
      refine ev_i rfl ?_
      rw [e]
      rfl
    · apply hm_486
      apply hd_486_0
      exact ev_i rfl (ev_cI (r_358 b3 b1 hb) (ev_f (by decide) (ev_i rfl (ev_cI (r_358 b3 b1 hc) (ev_t (by decide) (ev_b (rdR rfl) (ev_b ((qa_175 (by omega)).trans (congrArg some q1)) (ev_b (rdR rfl) (ev_b ((qa_175 (by omega)).trans (congrArg some r1)) (ev_f nk rfl))))))))))
  subst ek
  by_cases c6 : n = 600
  · subst c6
    refine err (nI b) (nI c) 0 3 (.inr (.inr rfl)) ?_ (fun t => ?_)
    · have e : fm_198 N (.ref 0) (nI b) (nI c) sd (fx V I L R ++ tl) = some (.inr (1, (fx V I L R ++ (tl ++ [am_dummy])))) := by
        apply hm_198
        apply hd_198_0
        refine ev_i rfl (ev_cR (c_63 b2 b1 hb q4) rfl (ev_b oA (ev_i rfl (ev_cR (c_63 b2 b1 hc r4) rfl (ev_b oB (ev_t rfl (ev_i rfl ?_)))))))
        rw [c_32n b2]
        rfl
      unfold fm_197 fg_197_0
      refine ev_i rfl ?_
      rw [e]
      rfl
    · apply hm_486
      apply hd_486_0
      exact ev_i rfl (ev_cI (r_358 b3 b1 hb) (ev_f (by decide) (ev_i rfl (ev_cI (r_358 b3 b1 hc) (ev_t (by decide) (ev_b (rdR rfl) (ev_b ((qa_175 (by omega)).trans (congrArg some q1)) (ev_b (rdR rfl) (ev_b ((qa_175 (by omega)).trans (congrArg some r1)) (ev_t rfl (ev_b (rdI b3) (ev_f (fun u => u rfl) rfl))))))))))))
  have hn : n < 600 := by omega
  have gl := gd_ln hg
  have gl' := gd_ln hgq
  obtain ⟨V1, ev1⟩ : ∃ X, X = vup V 173 0 (.long sd) := ⟨_, rfl⟩
  have kv : keep V V1 I I := by rw [ev1]; exact keep_lg (by decide) (by decide)
  have b2' : V1 0 1 = .int (nI n) := (kv.1 0 1 (by decide)).trans b2
  obtain ⟨W1, J1, nC, e1, h9, f1, cy, cn⟩ := beg_P (V := V1) (I := I) (L := L) (R := R) (tl := tl) (N := N) (x3 := -1) (by omega) hg hgq (kv.2.2 hwt) (q5 V1 I) (r5 V1 I) (by omega) (by omega) (by omega) (by omega)
  have k1 := keep_t kv (keep_Cg f1)
  have s173 : W1 173 0 = .long sd := (f1.1 173 0 (by omega)).trans (by rw [ev1]; rfl)
  -- the class up to the count
  have pre : ∀ (x : Int32) (W2 : Nat → Nat → Value) (J2 : Nat → Nat → Int32) (o : Option am_O), fm_162 N (.ref 89) (fx W1 J1 L R ++ tl) = some (.inl (some (.int x), fx W2 J2 L R ++ tl)) → am_cI true (if x ≤ 0 then (fg_190_95 N (.ref 0) (nI b) (nI c) (-1) sd (.ref (269 + a)) ((-1)) (fx W2 J2 L R ++ tl)) else ((am_vR (am_pG 2835 (.ref 0) (fx W2 J2 L R ++ tl))).bind fun v12 => (if am_pOk 8 v12 (fx W2 J2 L R ++ tl) then am_cI true (fm_192 v12 x (fx W2 J2 L R ++ tl)) (fun v15 h16 => (fg_190_95 N (.ref 0) (nI b) (nI c) (-1) sd (.ref (269 + a)) v15 h16)) else none))) (fun v19 h20 => some (.inl (some (.int v19), h20))) = o → fm_198 N (.ref 0) (nI b) (nI c) sd (fx V I L R ++ tl) = o := fun x W2 J2 o e2 k_ => by
    have e190 : fm_190 N (.ref 0) (nI b) (nI c) (-1) sd (fx V I L R ++ tl) = (if x ≤ 0 then (fg_190_95 N (.ref 0) (nI b) (nI c) (-1) sd (.ref (269 + a)) ((-1)) (fx W2 J2 L R ++ tl)) else ((am_vR (am_pG 2835 (.ref 0) (fx W2 J2 L R ++ tl))).bind fun v12 => (if am_pOk 8 v12 (fx W2 J2 L R ++ tl) then am_cI true (fm_192 v12 x (fx W2 J2 L R ++ tl)) (fun v15 h16 => (fg_190_95 N (.ref 0) (nI b) (nI c) (-1) sd (.ref (269 + a)) v15 h16)) else none))) := by
      apply hm_190
      apply hd_190_0
      refine ev_i rfl (ev_cR (c_63 b2 b1 hb q4) rfl (ev_b (rdR rfl) (ev_b (a := fx V1 I L R ++ tl) (by rw [ev1]; exact qp_173_0) (ev_t (by decide) (ev_b (rdR rfl) (ev_t (nI_le (a := 0) (Nat.zero_le c) (by omega)) (ev_i rfl (ev_cR (c_63 b2' b1 hc r4) rfl ?_))))))))
      apply hd_190_63
      exact ev_i rfl (ev_cI e1 (ev_b (rdR rfl) (ev_i rfl (ev_cI e2 rfl))))
    apply hm_198
    apply hd_198_0
    refine ev_i rfl (ev_cR (c_63 b2 b1 hb q4) rfl (ev_b oA (ev_i rfl (ev_cR (c_63 b2 b1 hc r4) rfl (ev_b oB (ev_t rfl (ev_i rfl (ev_cV (c_32 b2 hn) (ev_i rfl ?_)))))))))
    rw [e190]
    exact k_
  have q1' : ∀ (Y : Nat → Nat → Int32), (∀ y, y ∈ iRel → Y y = I y) → (Y 175 b = nI kd ∧ Y 176 b = nI P.length ∧ Y 177 b = nI ln ∧ lay2 (fun k => Y 184 (60 * b + k)) (fun k => Y 185 (60 * b + k)) P) ∧ (Y 175 c = nI kd ∧ Y 176 c = nI Q.length ∧ Y 177 c = nI ln' ∧ lay2 (fun k => Y 184 (60 * c + k)) (fun k => Y 185 (60 * c + k)) Q) := fun Y iR => ⟨⟨(congrFun (iR 175 (by decide)) b).trans q1, (congrFun (iR 176 (by decide)) b).trans q2, (congrFun (iR 177 (by decide)) b).trans q3, by rw [iR 184 (by decide), iR 185 (by decide)]; exact q6⟩, ⟨(congrFun (iR 175 (by decide)) c).trans r1, (congrFun (iR 176 (by decide)) c).trans r2, (congrFun (iR 177 (by decide)) c).trans r3, by rw [iR 184 (by decide), iR 185 (by decide)]; exact r6⟩⟩
  -- the reference, loaded
  have ref0 : ∀ (Y : Nat → Nat → Value) (J2 : Nat → Nat → Int32) (M : Nat → Nat → Int64) (S : Nat → Nat → Option Nat) (t : am_H), wt Y → (∀ y, y ∈ iRel → J2 y = I y) → ∃ W J, dsE kd ln P W J ∧ dsT kd Q W J ∧ keep (vup Y 174 0 (.int 0)) W J2 J ∧ W 174 96 = .long sd ∧ W 174 97 = .int (-1) ∧ W 174 0 = .int 0 ∧ ∀ o, (if bI (decide (kd = kd ∧ (kd = 3 → ln = ln'))) = 0 then (fg_487_38 N (.ref 174) 0 (fx W J M S ++ t)) else (if am_pOk 12 (.ref 174) (fx W J M S ++ t) then am_cI true (fm_481 N (.ref 174) ((-1)) (fx W J M S ++ t)) (fun v19 h20 => (fg_487_38 N (.ref 174) v19 h20)) else none)) = o → fm_487 N (.ref 174) (nI b) (nI c) sd (fx (vup Y 174 0 (.int 0)) J2 M S ++ t) = o := fun Y J2 M S t wY iR => by
    obtain ⟨⟨x1, x2, x3, x4⟩, ⟨z1, z2, z3, z4⟩⟩ := q1' J2 iR
    obtain ⟨Y1, ey⟩ : ∃ X, X = vup (vup (vup Y 174 0 (.int 0)) 174 96 (.long sd)) 174 97 (.int (-1)) := ⟨_, rfl⟩
    have ky : keep (vup Y 174 0 (.int 0)) Y1 J2 J2 := by rw [ey]; exact keep_t (keep_lg (by decide) (by decide)) (keep_v (a := 174) (j := 97) (by decide) (by decide))
    obtain ⟨W3, J3, t1, f3, g20, g19, gds, gsp⟩ := ld_E (V := Y1) (I := J2) (L := M) (R := S) (tl := t) (N := N) (by omega) (by omega) hg x1 x2 x3 x4
    have k3 := keep_39 f3
    obtain ⟨W4, J4, t2, f4, ht⟩ := ld_B (V := W3) (I := J3) (L := M) (R := S) (tl := t) (N := N) (by omega) (by omega) hgq ((congrFun (k3.2.1 175 (by decide)) c).trans z1) ((congrFun (k3.2.1 176 (by decide)) c).trans z2) (by rw [k3.2.1 184 (by decide), k3.2.1 185 (by decide)]; exact z4)
    have k4 := keep_t k3 (keep_48 f4)
    have fd : ∀ j, j ≠ 18 → j ≠ 19 → j ≠ 20 → j ≠ 23 → W4 174 j = Y1 174 j := fun j a1 a2 a3 a4 => (f4.1 174 j (by omega)).trans (f3.1 174 j (by omega))
    refine ⟨W4, J4, dsE_48 ⟨g20, g19, gds, gsp⟩ f4, ht, keep_t ky k4, ?_, ?_, ?_, fun o k_ => ?_⟩
    · rw [fd 96 (by decide) (by decide) (by decide) (by decide), ey]; rfl
    · rw [fd 97 (by decide) (by decide) (by decide) (by decide), ey]; rfl
    · rw [fd 0 (by decide) (by decide) (by decide) (by decide), ey]; rfl
    · apply hm_487
      apply hd_487_0
      refine ev_b qp_174_96 (ev_b (a := fx Y1 J2 M S ++ t) (by rw [ey]; exact qp_174_97) (ev_i rfl (ev_cV t1 (ev_i rfl (ev_cV t2 (ev_i rfl (ev_cI (r_479 (by omega) (by omega) k3' k3' gl.1 gl'.1 ((congrFun (k4.2.1 175 (by decide)) b).trans x1) ((congrFun (k4.2.1 177 (by decide)) b).trans x3) ((congrFun (k4.2.1 175 (by decide)) c).trans z1) ((congrFun (k4.2.1 177 (by decide)) c).trans z3)) k_)))))))
  -- the parent again
  have copy : ∀ (W2 : Nat → Nat → Value) (J2 : Nat → Nat → Int32), keep V W2 I J2 → W2 89 9 = .int nC → fm_198 N (.ref 0) (nI b) (nI c) sd (fx V I L R ++ tl) = am_cI true (fg_190_95 N (.ref 0) (nI b) (nI c) (-1) sd (.ref (269 + a)) ((-1)) (fx W2 J2 L R ++ tl)) (fun v19 h20 => some (.inl (some (.int v19), h20))) → (¬ (kd = kd ∧ (kd = 3 → ln = ln')) ∨ (ln = ln' ∧ cnt (cdP kd P Q) (ncP kd ln ln P.length Q.length) 0 = 0)) → ∃ h', opBI (fm_197 N (.ref 0) (nI b) (nI c) sd (.ref 268) (fx V I L R ++ tl)) (fun h1 => fm_486 N (.ref 174) (nI b) (nI c) sd h1) vfI h' ∧ invW (j + 1) h' := fun W2 J2 k2 w9 ecl hz => by
    obtain ⟨W3, J3, e3, d3, f3⟩ := p60E_90 (V := W2) (I := J2) (L := L) (R := R) (tl := tl) (by omega) hg (q5 W2 J2)
    have k3 : keep V W3 I J3 := keep_t k2 (keep_Cg (frM_Cg (frM_9 f3)))
    have e90 : fg_190_95 N (.ref 0) (nI b) (nI c) (-1) sd (.ref (269 + a)) ((-1)) (fx W2 J2 L R ++ tl) = fg_190_121 N (.ref 0) (nI b) (nI c) (-1) sd (-1) (fx W3 J3 L R ++ tl) := by
      apply hd_190_95
      exact ev_b (rdR rfl) (ev_i rfl (ev_cI (s187n (by omega) (by decide) w9) (ev_f (fun u => u rfl) (ev_b (rdR rfl) (ev_b (rdR rfl) (ev_i rfl (ev_cV e3 rfl)))))))
    refine fin_31 (X := P) (nb := -1) (W2 := W3) (J2 := J3) hr hm hN hb hc hn hg k3 (by rw [ecl, e90]) d3 (ped_4 hb hc b1 (.inl rfl)) ⟨fun e => absurd e (by decide), fun _ => ⟨b, c, hb, hc, rfl, rfl, q1.trans r1.symm⟩, fun e => absurd e (by decide), fun _ y hy e => absurd e (nI_m1d hy)⟩ ⟨kd, q1, r1, k3'⟩ (fun Y M S t wY hY => ?_)
    obtain ⟨W4, J4, hd4, ht4, k4, g96, g97, g0, go⟩ := ref0 Y J3 M S t wY k3.2.1
    have fin : ∀ (W5 : Nat → Nat → Value) (J5 : Nat → Nat → Int32), dsE kd ln P W5 J5 → keep W4 W5 J4 J5 → W5 174 97 = .int (-1) → W5 174 0 = .int 0 → fm_487 N (.ref 174) (nI b) (nI c) sd (fx (vup Y 174 0 (.int 0)) J3 M S ++ t) = fg_487_38 N (.ref 174) 0 (fx W5 J5 M S ++ t) → ∃ W J, fm_487 N (.ref 174) (nI b) (nI c) sd (fx (vup Y 174 0 (.int 0)) J3 M S ++ t) = some (.inl (none, fx W J M S ++ t)) ∧ keep (vup Y 174 0 (.int 0)) W J3 J ∧ dkL W J P ∧ W 174 13 = .int (nI kd) ∧ W 174 15 = .int (nI ln) ∧ W 174 97 = .int (-1) ∧ W 174 0 = .int 0 := fun W5 J5 hd5 k5 g97' g0' e5 => by
      obtain ⟨W6, J6, t6, s1, s2, s3, f6⟩ := s442 (V := W5) (I := J5) (L := M) (R := S) (tl := t) (N := N) (by omega) hd5.1 hd5.2.1 hd5.2.2.1 (by have := hg.2.1; omega)
      refine ⟨W6, J6, e5.trans ?_, keep_t k4 (keep_t k5 (keep_Ed f6)), s1, s2, s3, (f6.1 174 97 (by decide)).trans g97', (f6.1 174 0 (by decide)).trans g0'⟩
      apply hd_487_38
      exact ev_f (fun u => u rfl) (ev_i rfl (ev_cV t6 rfl))
    rcases hz with hz | ⟨hz1, hz2⟩
    · refine fin W4 J4 hd4 keep_r g97 g0 (go _ ?_)
      rw [decide_eq_false hz]
      exact ev_t rfl rfl
    · have hgq' : gdP kd ln Q := by rw [hz1]; exact hgq
      obtain ⟨W5, J5, x, t5, o, hx, hd5, ht5, k5, kp5⟩ := rP_481 (V := W4) (I := J4) (L := M) (R := S) (tl := t) (N := N) (so := -1) (by omega) hg hgq' hd4 ht4 (k4.2.2 (wt_i wY (by decide)))
      have ex : x = 0 := by
        rcases o with ⟨-, -, d, X, d1, -, d3, -⟩ | ⟨-, o2, -⟩
        · exact absurd d3 (nI_m1c (by have := cnt_m (cdP kd P Q) d 0; have := ncP_b hg hgq'; omega))
        · rw [hx, hz2] at o2
          injection o2
      subst ex
      refine fin W5 J5 hd5 k5 ((kp5 97 (by decide) (by decide) (by decide) (by decide) (by decide) (by decide)).trans g97) ((kp5 0 (by decide) (by decide) (by decide) (by decide) (by decide) (by decide)).trans g0) (go _ ?_)
      rw [decide_eq_true ⟨rfl, fun _ => hz1⟩]
      exact ev_f (by decide) (ev_i rfl (ev_cI t5 rfl))
  by_cases cm : cmpt kd ln kd ln' P.length Q.length
  case neg =>
    have c0 := cn cm
    have e2 : fm_162 N (.ref 89) (fx W1 J1 L R ++ tl) = some (.inl (some (.int 0), fx W1 J1 L R ++ tl)) := by
      obtain ⟨K, rfl⟩ : ∃ k, N = k + 1 := ⟨N - 1, by omega⟩
      exact hm_162 (hd_162_0 (hd_162_4 (ev_b (rdI h9) (ev_t (by rw [c0]; decide) rfl))))
    refine copy W1 J1 k1 h9 (pre 0 W1 J1 _ e2 (by rw [if_pos (show (0 : Int32) ≤ 0 by decide)])) ?_
    by_cases d : kd = kd ∧ (kd = 3 → ln = ln')
    · refine .inr ?_
      have e0 : ln = ln' := by
        by_cases k3 : kd = 3
        · exact d.2 k3
        · rw [gl.2 k3, gl'.2 k3]
      have kk2 : kd = 2 := by
        by_cases k2 : kd = 2
        · exact k2
        · exact absurd ⟨rfl, e0, fun e => absurd e k2⟩ cm
      have hz : ¬ P.length = Q.length := fun e => cm ⟨rfl, e0, fun _ => e⟩
      have en : ncP kd ln ln P.length Q.length = 0 := by subst kk2; exact if_neg hz
      exact ⟨e0, by rw [en]; rfl⟩
    · exact .inl d
  obtain ⟨sp, enc⟩ := cy cm
  have el : ln = ln' := cm.2.1
  subst el
  have nb := ncP_b hg hgq
  obtain ⟨W2, J2, e2, s2, f2⟩ := s162 (L := L) (R := R) (tl := tl) (N := N) (S := SP tl (269 + a) (269 + it) (269 + a') (269 + it') kd ln P Q) (cd := cdP kd P Q) (n := ncP kd ln ln P.length Q.length) nb (.inl enc) (fun _ _ _ _ h f => SP_f h f) (fun V I h c hc => all_mP (by omega) hg hgq h hc) hN sp h9
  have k2 : keep V W2 I J2 := keep_t k1 (keep_Cg (frM_Cg f2))
  have h9' : W2 89 9 = .int nC := (f2.1 89 9 (by decide) (by decide) (by decide) (by decide)).trans h9
  have cmm := cnt_m (cdP kd P Q) (ncP kd ln ln P.length Q.length) 0
  by_cases z0 : cnt (cdP kd P Q) (ncP kd ln ln P.length Q.length) 0 = 0
  · rw [z0] at e2
    exact copy W2 J2 k2 h9' (pre _ W2 J2 _ e2 (by rw [if_pos (show nI 0 ≤ 0 by decide)])) (.inr ⟨rfl, z0⟩)
  -- a pair is drawn
  obtain ⟨m, em⟩ : ∃ m, m = cnt (cdP kd P Q) (ncP kd ln ln P.length Q.length) 0 := ⟨_, rfl⟩
  rw [← em] at e2 cmm z0
  obtain ⟨y, ey⟩ : ∃ y, y = hlf (nxt sd) % m := ⟨_, rfl⟩
  have ym : y < m := by rw [ey]; exact Nat.mod_lt _ (by omega)
  have s173' : W2 173 0 = .long sd := (f2.1 173 0 (by decide) (by decide) (by decide) (by decide)).trans s173
  have ed := y_192 (I := J2) (L := L) (R := R) (tl := tl) (k := m) s173' (by omega) (by omega)
  rw [← ey] at ed
  obtain ⟨W3, ev3⟩ : ∃ X, X = vup W2 173 0 (.long (nxt sd)) := ⟨_, rfl⟩
  rw [← ev3] at ed
  have k3 : keep V W3 I J2 := keep_t k2 (by rw [ev3]; exact keep_lg (by decide) (by decide))
  obtain ⟨W4, J4, bb, e4, i4, d4, s4, f4⟩ := s187 (L := L) (R := R) (tl := tl) (N := N) (S := SP tl (269 + a) (269 + it) (269 + a') (269 + it') kd ln P Q) (cd := cdP kd P Q) (n := ncP kd ln ln P.length Q.length) (V := W3) (I := J2) (y := y) nb (.inl enc) (fun _ _ _ _ h f => SP_f h f) (fun V I h c hc => all_mP (by omega) hg hgq h hc) hN (by omega) (by rw [ev3]; exact SP_173 (by omega) (by omega) s2) (by rw [ev3]; exact h9')
  rw [← em] at i4
  have bt : bb = true := i4.mpr ym
  subst bt
  obtain ⟨d, X, dl, dq, dc, dh, d60⟩ := d4 rfl
  have gX := cdP_gd hg hgq dl dq
  have k4 : keep V W4 I J4 := keep_t k3 (keep_Cg (frM_Cg f4))
  have e90 : fg_190_95 N (.ref 0) (nI b) (nI c) (-1) sd (.ref (269 + a)) (nI y) (fx W3 J2 L R ++ tl) = fg_190_121 N (.ref 0) (nI b) (nI c) (-1) sd (nI y) (fx W4 J4 L R ++ tl) := by
    apply hd_190_95
    exact ev_b (rdR rfl) (ev_i rfl (ev_cI e4 (ev_t (by decide) rfl)))
  have ecl : fm_198 N (.ref 0) (nI b) (nI c) sd (fx V I L R ++ tl) = am_cI true (fg_190_121 N (.ref 0) (nI b) (nI c) (-1) sd (nI y) (fx W4 J4 L R ++ tl)) (fun v19 h20 => some (.inl (some (.int v19), h20))) := by
    refine pre (nI m) W2 J2 _ e2 ?_
    have nz : ¬ nI m ≤ 0 := nI_ge (a := 0) (by omega) (by omega)
    rw [if_neg nz, ← e90]
    congr 1
    exact ev_b (rdR rfl) (ev_i rfl (ev_cI ed rfl))
  refine fin_31 (X := X) (nb := nI y) (W2 := W4) (J2 := J4) hr hm hN hb hc hn gX k4 ecl dh (ped_4 hb hc b1 (.inr ⟨y, by omega, rfl⟩)) (gen_4 hb hc b1 hg hgq q1 q2 q3 q7 r1 r2 r3 r7 (fun y' hy' e => by
    have := (nI_eq (by omega) (by omega)).mp e
    rw [← em]
    omega)) ⟨kd, q1, r1, k3'⟩ (fun Y M S t wY hY => ?_)
  obtain ⟨U4, K4, hd4, ht4, kk4, g96, g97, g0, go⟩ := ref0 Y J4 M S t wY k4.2.1
  have wU := kk4.2.2 (wt_i wY (by decide))
  obtain ⟨U5, K5, x, t5, o, hx, hd5, ht5, kk5, kp5⟩ := rP_481 (V := U4) (I := K4) (L := M) (R := S) (tl := t) (N := N) (so := -1) (by omega) hg hgq hd4 ht4 wU
  have ex : x = nI m := by
    rcases o with ⟨-, -, d, X, d1, -, d3, -⟩ | ⟨-, o2, -⟩
    · exact absurd d3 (nI_m1c (by have := cnt_m (cdP kd P Q) d 0; omega))
    · rw [hx] at o2
      injection o2 with o2
      rw [o2, em]
  subst ex
  have g96' : U5 174 96 = .long sd := (kp5 96 (by decide) (by decide) (by decide) (by decide) (by decide) (by decide)).trans g96
  have t6 := x_474 (I := K5) (L := M) (R := S) (tl := t) (k := m) g96' (by omega) (by omega)
  rw [← ey] at t6
  obtain ⟨U6, eu6⟩ : ∃ X, X = vup (vup U5 174 96 (.long (nxt sd))) 174 97 (.int (nI y)) := ⟨_, rfl⟩
  have kk6 : keep U5 U6 K5 K5 := by rw [eu6]; exact keep_t (keep_lg (by decide) (by decide)) (keep_v (a := 174) (j := 97) (by decide) (by decide))
  have kp6 : ∀ j, j ≠ 96 → j ≠ 97 → U6 174 j = U5 174 j := fun j h1 h2 => by rw [eu6, vup_o (fun e => h2 e.2), vup_o (fun e => h1 e.2)]
  have hd6 : dsE kd ln P U6 K5 := dsE_c hd5 ⟨kp6 18 (by decide) (by decide), kp6 19 (by decide) (by decide), kp6 20 (by decide) (by decide)⟩ ⟨rfl, rfl, rfl⟩
  have ht6 : dsT kd Q U6 K5 := ⟨⟨(kp6 23 (by decide) (by decide)).trans ht5.1.1, ht5.1.2⟩, ht5.2⟩
  have w6 := kk6.2.2 (kk5.2.2 wU)
  obtain ⟨U7, K7, x7, t7, o7, hx7, hd7, ht7, kk7, kp7⟩ := rP_481 (V := U6) (I := K5) (L := M) (R := S) (tl := t) (N := N) (so := nI y) (by omega) hg hgq hd6 ht6 w6
  rcases o7 with ⟨-, -, d', X', d1, d2, d3, d4', d5, d6⟩ | ⟨-, -, -, o4⟩
  case inr => exact absurd (o4 y (by omega) rfl) (by omega)
  have eyc := (nI_eq (by omega) (by have := cnt_m (cdP kd P Q) d' 0; omega)).mp d3
  have ecd : d' = d := cnt_u (cd := cdP kd P Q) (by rw [d2]; rfl) (by rw [dq]; rfl) (by omega)
  subst ecd
  have eX : X' = X := by rw [dq] at d2; exact (Option.some.inj d2).symm
  subst eX
  have h97 : U6 174 97 = .int (nI y) := by rw [eu6]; rfl
  refine ⟨U7, K7, go _ ?_, keep_t kk4 (keep_t kk5 (keep_t kk6 kk7)), d4', d5, d6, (kp7 97 (by decide) (by decide) (by decide) (by decide) (by decide) (by decide)).trans h97, (kp7 0 (by decide) (by decide) (by decide) (by decide) (by decide) (by decide)).trans ((kp6 0 (by decide) (by decide)).trans ((kp5 0 (by decide) (by decide) (by decide) (by decide) (by decide) (by decide)).trans g0))⟩
  rw [decide_eq_true ⟨rfl, fun _ => rfl⟩]
  refine ev_f (by decide) (ev_i rfl (ev_cI t5 ?_))
  apply hd_487_38
  refine ev_t (fun u => z0 ((nI_eq (b := 0) (by omega) (by decide)).mp u)) (ev_i rfl (ev_cI t6 (ev_b (a := fx U6 K5 M S ++ t) (by rw [eu6]; exact qp_174_97) (ev_b (rdI h97) (ev_i rfl (ev_cI t7 rfl))))))
