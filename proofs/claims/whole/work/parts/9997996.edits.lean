/-! ===== edits(b, how) ===== -/
theorem c158 {V : Nat → Nat → Value} {I : Nat → Nat → Int32} {L : Nat → Nat → Int64} {R : Nat → Nat → Option Nat} {tl : am_H} {w : Nat} (hw : w < 4) : fm_158 (.ref 0) (nI w) (fx V I L R ++ tl) = some (.inl (none, fx V I L R ++ tl)) := by
  apply hm_158
  apply hd_158_0
  exact ev_f (nI_pos (by omega)) (ev_t ((nI_ltI (b := 4) (by omega) (by decide)).mpr hw) rfl)
theorem c158n {V : Nat → Nat → Value} {I : Nat → Nat → Int32} {L : Nat → Nat → Int64} {R : Nat → Nat → Option Nat} {tl : am_H} {a : Int32} (h : a < 0 ∨ nI 4 ≤ a) : fm_158 (.ref 0) a (fx V I L R ++ tl) = some (.inr (0, fx V I L R ++ (tl ++ [am_dummy]))) := by
  have e : fg_158_9 (fx V I L R ++ tl) = some (.inr (0, fx V I L R ++ (tl ++ [am_dummy]))) := by
    apply hd_158_9
    rw [List.append_assoc]
  apply hm_158
  apply hd_158_0
  by_cases c : a < 0
  · exact ev_t c e
  · exact ev_f c (ev_f (Int32.not_lt.mpr (h.resolve_left c)) e)
/-- the class's edits: begun -/
theorem edC {V : Nat → Nat → Value} {I : Nat → Nat → Int32} {L : Nat → Nat → Int64} {R : Nat → Nat → Option Nat} {tl : am_H} {N n p b w : Nat} (hN : 5000 < N) (hr : rel V I L R tl n p) (hb : b < n) (hw : w < 4) : ∃ (kd ln : Nat) (P : xI) (a it : Nat) (nC : Int32) (W : Nat → Nat → Value) (J : Nat → Nat → Int32), gdP kd ln P ∧ I 175 b = nI kd ∧ I 176 b = nI P.length ∧ I 177 b = nI ln ∧ lay2 (fun k => I 184 (60 * b + k)) (fun k => I 185 (60 * b + k)) P ∧ P = prgI I b P.length ∧ fm_63 (.ref 0) (nI b) (fx V I L R ++ tl) = some (.inl (some (.ref (269 + a)), (fx V I L R ++ tl))) ∧ fm_159 N (.ref 89) (.ref (269 + a)) Value.null (nI w) (fx V I L R ++ tl) = some (.inl (some (.int nC), fx W J L R ++ tl)) ∧ SE tl (269 + a) (269 + it) kd ln w P W J ∧ W 89 9 = .int nC ∧ (nC = nI (ncE kd ln P.length w) ∨ (ncE kd ln P.length w = 0 ∧ nC ≤ 0)) ∧ frCg V W I J ∧ (∀ V I L R, SE tl (269 + a) (269 + it) kd ln w P V I → ∀ c, c < ncE kd ln P.length w → ∃ W J b, fm_163 N (.ref 89) (nI c) (fx V I L R ++ tl) = some (.inl (some (.int (bI b)), fx W J L R ++ tl)) ∧ outE W J kd ln (cdE kd ln P w c) b ∧ frM V W I J) := by
  obtain ⟨b1, b2, b3⟩ := hr.1
  obtain ⟨kd, ln, P, a, it, hg, q1, q2, q3, q4, q5, q6, q7⟩ := bth_E hr hb
  obtain ⟨W, J, nC, e, s, h9, hC, f⟩ := beg_E (V := V) (I := I) (L := L) (R := R) (tl := tl) (N := N) (by omega) hg hw (rel_w hr) (q5 V I) (by omega) (by omega)
  exact ⟨kd, ln, P, a, it, nC, W, J, hg, q1, q2, q3, q6, q7, c_63 b2 b1 hb q4, e, s, h9, hC, f, fun V I L R h c hc => all_m (by omega) hg hw h hc⟩
/-- the reference's edits: loaded and gone through -/
theorem edR {V : Nat → Nat → Value} {I : Nat → Nat → Int32} {L : Nat → Nat → Int64} {R : Nat → Nat → Option Nat} {tl : am_H} {N kd ln b w : Nat} {P : xI} {so : Int32} (hN : 400 < N) (hb : b < 600) (hg : gdP kd ln P) (hw : w < 4) (wv : wt V) (q1 : I 175 b = nI kd) (q2 : I 176 b = nI P.length) (q3 : I 177 b = nI ln) (hl : lay2 (fun k => I 184 (60 * b + k)) (fun k => I 185 (60 * b + k)) P) : ∃ W1 J1 W J x, fm_391 N (.ref 174) (nI b) (fx V I L R ++ tl) = some (.inl (none, fx W1 J1 L R ++ tl)) ∧ fm_439 N (.ref 174) (nI w) so (fx W1 J1 L R ++ tl) = some (.inl (some (.int x), fx W J L R ++ tl)) ∧ outS (vSo W1 so) J1 (cdE kd ln P w) so (ncE kd ln P.length w) kd (nI ln) W J ∧ W 174 94 = .int x ∧ fr39 V W1 I J1 ∧ frSc (vSo W1 so) W J1 J ∧ keep V W I J := by
  obtain ⟨W1, J1, e1, f1, h20, h19, hd, hsp⟩ := ld_E (V := V) (I := I) (L := L) (R := R) (tl := tl) (N := N) (by omega) hb hg q1 q2 q3 hl
  obtain ⟨W, J, x, e2, o, hx⟩ := all_r (V := W1) (I := J1) (L := L) (R := R) (tl := tl) (N := N) (so := so) hN hg hw h20 h19 hd hsp (f1.2.2 wv)
  have f2 : frSc (vSo W1 so) W J1 J := by
    rcases o with o | o
    · exact o.1
    · exact o.1
  exact ⟨W1, J1, W, J, x, e1, e2, o, hx, f1, f2, keep_t (keep_39 f1) (keep_t keep_So (keep_Sc f2))⟩
set_option maxRecDepth 100000 in
set_option maxHeartbeats 4000000 in
theorem u_27 {V : Nat → Nat → Value} {I : Nat → Nat → Int32} {L : Nat → Nat → Int64} {R : Nat → Nat → Option Nat} {tl : am_H} {n p j : Nat} (hr : rel V I L R tl n p) (hm : room tl n p j) {N : Nat} (hN : 5000 < N) (a1 a2 : Int32) : ∃ h', opBI (fm_156 N (.ref 0) a1 a2 (.ref 268) (fx V I L R ++ tl)) (fun h1 => fm_438 N (.ref 174) a1 a2 h1) vfI h' ∧ invW (j + 1) h' := by
  obtain ⟨b1, b2, b3⟩ := hr.1
  have hwt := rel_w hr
  rcases dich a1 (n := n) (by omega) with hn | ⟨b, hb, rfl⟩
  · refine ⟨_, opBI_err (c := 1) (b := 0) (by decide) (tl := tl ++ [am_dummy]) ?_ ?_, inv_mk (rel_thr 1 (rel_dum hr)) (room_dum hm)⟩
    · have e : fm_157 N (.ref 0) a1 a2 (fx V I L R ++ tl) = some (.inr (2, (fx V I L R ++ (tl ++ [am_dummy])))) := by
        apply hm_157
        apply hd_157_0
        refine ev_i rfl ?_
        rw [c_63n b2 hn]
        rfl
      unfold fm_156 fg_156_0
      refine ev_i rfl ?_
      rw [e]
      rfl
    · show fm_438 N (.ref 174) a1 a2 (fx V I L R ++ (tl ++ [am_dummy])) = _
      apply hm_438
      apply hd_438_0
      refine ev_i rfl (ev_cI (r_358n b3 b1 hn) (ev_f (fun e => e rfl) ?_))
      apply hd_438_30
      exact ev_b qp_174_0 (ev_b (a := 1) rfl (ev_f (by decide) rfl))
  · rcases dich a2 (n := 4) (by omega) with hn | ⟨w, hw, rfl⟩
    · obtain ⟨kd, ln, sz, a, it, f, q1, q2, q3, q4, -⟩ := bOk_pg (V := V) (I := I) (L := L) (R := R) (tl := tl) (hr.2.1 b hb)
      refine ⟨_, opBI_err (c := 2) (b := 0) (by decide) (tl := tl ++ [am_dummy]) ?_ ?_, inv_mk (rel_thr 2 (rel_dum hr)) (room_dum hm)⟩
      · have e : fm_157 N (.ref 0) (nI b) a2 (fx V I L R ++ tl) = some (.inr (0, (fx V I L R ++ (tl ++ [am_dummy])))) := by
          apply hm_157
          apply hd_157_0
          refine ev_i rfl (ev_cR (c_63 b2 b1 hb q4) rfl (ev_i rfl ?_))
          rw [c158n hn]
          rfl
        unfold fm_156 fg_156_0
        refine ev_i rfl ?_
        rw [e]
        rfl
      · show fm_438 N (.ref 174) (nI b) a2 (fx V I L R ++ (tl ++ [am_dummy])) = _
        apply hm_438
        apply hd_438_0
        refine ev_i rfl (ev_cI (r_358 b3 b1 hb) (ev_t (by decide) (ev_cI (pe_327 _ _ _ _) ?_)))
        rw [in_4n hn]
        refine ev_f (fun e => e rfl) ?_
        apply hd_438_30
        exact ev_b qp_174_0 (ev_b (a := 2) rfl (ev_f (by decide) rfl))
    · obtain ⟨kd, ln, P, a, it, nC, W1, J1, hg, q1, q2, q3, q6, -, e63, e1, s1, h9, hC, f1, hm1⟩ := edC hN hr hb hw
      have nb := ncE_b hg hw
      obtain ⟨W2, J2, e2, s2, f2⟩ := s162 (L := L) (R := R) (tl := tl) (N := N) (S := SE tl (269 + a) (269 + it) kd ln w P) (cd := cdE kd ln P w) nb hC (fun _ _ _ _ h f => SE_f h f) (fun V I h c hc => hm1 V I L R h c hc) hN s1 h9
      have kW : keep V W2 I J2 := keep_t (keep_Cg f1) (keep_Cg (frM_Cg f2))
      have cm := cnt_m (cdE kd ln P w) (ncE kd ln P.length w) 0
      obtain ⟨x, ex⟩ : ∃ x, x = nI (cnt (cdE kd ln P w) (ncE kd ln P.length w) 0) := ⟨_, rfl⟩
      rw [← ex] at e2
      have iR : ∀ y, y ∈ iRel → J2 y = I y := kW.2.1
      have wt2 : wt (vup W2 174 0 (.int 0)) := wt_i (kW.2.2 hwt) (by decide)
      obtain ⟨W3, J3, W4, J4, y, r1, r2, o, hx, f3, f4, k4⟩ := edR (V := vup W2 174 0 (.int 0)) (I := J2) (L := outL L x.toInt64) (R := R) (tl := tl) (N := N) (so := -1) (by omega) (by omega) hg hw wt2 ((congrFun (iR 175 (by decide)) b).trans q1) ((congrFun (iR 176 (by decide)) b).trans q2) ((congrFun (iR 177 (by decide)) b).trans q3) (by rw [iR 184 (by decide), iR 185 (by decide)]; exact q6)
      have ey : y = x := by
        rcases o with ⟨-, -, c, Q, c1, -, c3, -⟩ | ⟨-, o2, -⟩
        · exact absurd c3 (nI_m1c (by have := cnt_m (cdE kd ln P w) c 0; omega))
        · rw [hx] at o2
          injection o2 with o2
          rw [o2, ex]
      subst ey
      have z4 : W4 174 0 = .int 0 := ((f4.1 174 0 (by decide)).trans (vSo_o (by decide))).trans (f3.1 174 0 (by decide))
      have K : keep V W4 I J4 := keep_t kW (keep_t (keep_v (a := 174) (j := 0) (by decide) (by decide)) k4)
      refine ⟨_, opBI_g (v := y) (W := W2) (J := J2) (M := outL L y.toInt64) (R1 := R) (t1 := tl) ?_ (r := fun h1 => fm_438 N (.ref 174) (nI b) (nI w) h1) ?_ z4 outL_at, inv_mk (rel_k K (rel_ol _ hr)) (room_up hm)⟩
      · have e : fm_157 N (.ref 0) (nI b) (nI w) (fx V I L R ++ tl) = some (.inl (some (.int y), fx W2 J2 L R ++ tl)) := by
          apply hm_157
          apply hd_157_0
          exact ev_i rfl (ev_cR e63 rfl (ev_i rfl (ev_cV (c158 hw) (ev_b (rdR rfl) (ev_i rfl (ev_cI e1 (ev_b (rdR rfl) (ev_i rfl (ev_cI e2 rfl)))))))))
        unfold fm_156 fg_156_0
        refine ev_i rfl ?_
        rw [e]
        exact ev_b out_s rfl
      · have b3' : W2 174 1 = .int (nI n) := (kW.1 174 1 (by decide)).trans b3
        show fm_438 N (.ref 174) (nI b) (nI w) _ = _
        apply hm_438
        apply hd_438_0
        refine ev_i rfl (ev_cI (r_358 b3' b1 hb) (ev_t (by decide) (ev_cI (pe_327 _ _ _ _) ?_)))
        rw [in_4 w hw]
        refine ev_t (by decide) ?_
        apply hd_438_30
        exact ev_b qp_174_0 (ev_b (a := 0) rfl (ev_t (by decide) (ev_i rfl (ev_cV r1 (ev_i rfl (ev_cI r2 rfl))))))
