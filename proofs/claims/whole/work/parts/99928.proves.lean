/-! ===== proves(a, b), put together ===== -/

theorem opZ {W W' : Nat → Nat → Value} {J J' : Nat → Nat → Int32} {M M' : Nat → Nat → Int64} {R1 R2 : Nat → Nat → Option Nat} {t1 t2 : am_H} {w : Option am_O} {r : am_H → Option am_O} {b : Bool} (hw : w = some (.inl (some (.int 0), fx W J M R1 ++ t1))) (hr : r (fx W J M R1 ++ t1) = some (.inl (some (.int (bI b)), fx W' J' M' R2 ++ t2))) (h0 : W' 174 0 = .int 0) (hL : M' 268 0 = if b = true then 1 else 0) : opBI w r vfZ (fx W' J' M' R2 ++ t2) := ⟨0, _, bI b, if b = true then 1 else 0, hw, rfl, hr, rfl, by show am_vI (some (W' 174 0)) = _; rw [h0]; rfl, fun _ => ⟨(ev_aL (f := M' 268) (n := 1) rfl rfl).trans (by rw [show (0 : Int32).toNatClampNeg = 0 from rfl, hL]), by cases b <;> rfl⟩⟩
theorem pg_tl {V : Nat → Nat → Value} {I : Nat → Nat → Int32} {L : Nat → Nat → Int64} {R : Nat → Nat → Option Nat} {tl : am_H} {W : Nat → Nat → Value} {J : Nat → Nat → Int32} {M : Nat → Nat → Int64} {Q : Nat → Nat → Option Nat} {a it kd ln sz m : Nat} {f : Nat → Int32} (h : pg (fx V I L R ++ tl) (269 + a) (269 + it) kd ln sz m f) : pg (fx W J M Q ++ tl) (269 + a) (269 + it) kd ln sz m f := by
  obtain ⟨x1, x2, x3, x4, x5, x6, p1, p2⟩ := h
  rw [tl_at] at p1 p2
  exact ⟨x1, x2, x3, x4, x5, x6, tl_at.trans p1, tl_at.trans p2⟩
theorem wrap_283 {V : Nat → Nat → Value} {I : Nat → Nat → Int32} {L : Nat → Nat → Int64} {R : Nat → Nat → Option Nat} {tl : am_H} {N : Nat} {a1 a2 : Int32} {W : Nat → Nat → Value} {J : Nat → Nat → Int32} {b : Bool} (e : fm_284 N (.ref 0) a1 a2 (fx V I L R ++ tl) = some (.inl (some (.int (bI b)), fx W J L R ++ tl))) : fm_283 N (.ref 0) a1 a2 (.ref 268) (fx V I L R ++ tl) = some (.inl (some (.int 0), fx W J (outL L (if b = true then 1 else 0)) R ++ tl)) := by
  unfold fm_283 fg_283_0
  refine ev_i rfl ?_
  rw [e]
  cases b with
  | false => exact ev_t rfl (ev_b out_s rfl)
  | true => exact ev_f (by decide) (ev_b out_s rfl)
theorem r_555h {V : Nat → Nat → Value} {I : Nat → Nat → Int32} {L : Nat → Nat → Int64} {R : Nat → Nat → Option Nat} {tl : am_H} {N n b c kd kd' : Nat} {o : Option am_O} (b3 : V 174 1 = .int (nI n)) (b1 : n ≤ 600) (hb : b < n) (hc : c < n) (q1 : I 175 b = nI kd) (t1 : I 175 c = nI kd') (k3 : kd ≤ 3) (k3' : kd' ≤ 3) (ho : (if kd = 0 ∧ kd' = 0 then (if am_pOk 12 (.ref 174) (fx (vup V 174 0 (.int 0)) I L R ++ tl) then am_cV true (fm_391 N (.ref 174) (nI b) (fx (vup V 174 0 (.int 0)) I L R ++ tl)) (fun h18 => (fg_555_62 N N (.ref 174) (nI c) 1 0 h18)) else none) else some (.inl (some (.int 0), fx (vup V 174 0 (.int 0)) I L R ++ tl))) = o) : fm_555 N (.ref 174) (nI b) (nI c) (fx V I L R ++ tl) = o := by
  apply hm_555
  apply hd_555_0
  refine ev_i rfl (ev_cI (r_358 b3 b1 hb) (ev_f (by decide) (ev_i rfl (ev_cI (r_358 b3 b1 hc) (ev_f (by decide) ?_)))))
  apply hd_555_22
  refine ev_b qp_174_0 (ev_b (a := 0) rfl (ev_f (by decide) (ev_b (rdR rfl) (ev_b ((qa_175 (by omega)).trans (congrArg some q1)) ?_))))
  by_cases c1 : kd = 0
  · refine ev_f (fun e => e (by rw [c1]; rfl)) (ev_b (rdR rfl) (ev_b ((qa_175 (by omega)).trans (congrArg some t1)) ?_))
    by_cases c2 : kd' = 0
    · rw [if_pos ⟨c1, c2⟩] at ho
      exact ev_t (by rw [c2]; rfl) ho
    · rw [if_neg (fun e => c2 e.2)] at ho
      exact ev_f (fun e => c2 ((nI_eq (b := 0) (by omega) (by omega)).mp e)) ho
  · rw [if_neg (fun e => c1 e.1)] at ho
    exact ev_t (fun e => c1 ((nI_eq (b := 0) (by omega) (by omega)).mp e)) ho
set_option maxRecDepth 100000 in
set_option maxHeartbeats 4000000 in
theorem u_50 {V : Nat → Nat → Value} {I : Nat → Nat → Int32} {L : Nat → Nat → Int64} {R : Nat → Nat → Option Nat} {tl : am_H} {n p j : Nat} (hr : rel V I L R tl n p) (hm : room tl n p j) {N : Nat} (hN : 5000 < N) (a1 a2 : Int32) : ∃ h', opBI (fm_283 N (.ref 0) a1 a2 (.ref 268) (fx V I L R ++ tl)) (fun h1 => fm_555 N (.ref 174) a1 a2 h1) vfZ h' ∧ invW (j + 1) h' := by
  obtain ⟨b1, b2, b3⟩ := hr.1
  have hw := rel_w hr
  rcases dich a1 (n := n) (by omega) with hn | ⟨b, hb, rfl⟩
  · refine ⟨_, opBI_err (c := 1) (b := 0) (by decide) (tl := tl ++ [am_dummy]) ?_ ?_, inv_mk (rel_thr 1 (rel_dum hr)) (room_dum hm)⟩
    · have e : fm_284 N (.ref 0) a1 a2 (fx V I L R ++ tl) = some (.inr (2, (fx V I L R ++ (tl ++ [am_dummy])))) := by
        apply hm_284
        apply hd_284_0
        refine ev_i rfl ?_
        rw [c_63n b2 hn]
        rfl
      unfold fm_283 fg_283_0
      refine ev_i rfl ?_
      rw [e]
      rfl
    · show fm_555 N (.ref 174) a1 a2 (fx V I L R ++ (tl ++ [am_dummy])) = _
      apply hm_555
      apply hd_555_0
      refine ev_i rfl (ev_cI (r_358n b3 b1 hn) (ev_t rfl ?_))
      apply hd_555_21
      apply hd_555_22
      exact ev_b qp_174_0 (ev_b (a := 1) rfl (ev_t (by decide) rfl))
  · obtain ⟨kd, ln, sz, a, it, f, q1, q2, q3, q4, q5, q6, q7⟩ := bOk_pg (V := V) (I := I) (L := L) (R := R) (tl := tl) (hr.2.1 b hb)
    rcases dich a2 (n := n) (by omega) with hn | ⟨c, hc, rfl⟩
    · refine ⟨_, opBI_err (c := 1) (b := 0) (by decide) (tl := tl ++ [am_dummy]) ?_ ?_, inv_mk (rel_thr 1 (rel_dum hr)) (room_dum hm)⟩
      · have e : fm_284 N (.ref 0) (nI b) a2 (fx V I L R ++ tl) = some (.inr (2, (fx V I L R ++ (tl ++ [am_dummy])))) := by
          apply hm_284
          apply hd_284_0
          refine ev_i rfl (ev_cR (c_63 b2 b1 hb q4) rfl (ev_i rfl ?_))
          rw [c_63n b2 hn]
          rfl
        unfold fm_283 fg_283_0
        refine ev_i rfl ?_
        rw [e]
        rfl
      · show fm_555 N (.ref 174) (nI b) a2 (fx V I L R ++ (tl ++ [am_dummy])) = _
        apply hm_555
        apply hd_555_0
        refine ev_i rfl (ev_cI (r_358 b3 b1 hb) (ev_f (by decide) (ev_i rfl (ev_cI (r_358n b3 b1 hn) (ev_t rfl ?_)))))
        apply hd_555_21
        apply hd_555_22
        exact ev_b qp_174_0 (ev_b (a := 1) rfl (ev_t (by decide) rfl))
    · obtain ⟨kd', ln', sz', a', it', g, t1, t2, t3, t4, t5, t6, t7⟩ := bOk_pg (V := V) (I := I) (L := L) (R := R) (tl := tl) (hr.2.1 c hc)
      have k3 := q7.1
      have k3' := t7.1
      obtain ⟨x1, x2, x3, x4, x5, x6, pp1, pp3⟩ := id q5
      obtain ⟨y1, y2, y3, y4, y5, y6, pp2, pp4⟩ := id t5
      by_cases hk : kd = 0 ∧ kd' = 0
      · obtain ⟨hk0, hk1⟩ := hk
        subst hk0
        subst hk1
        obtain ⟨P, a3, it3, o1, o2, o3, o4, o5, o6, o7, o8⟩ := birth_T hr hb q1
        have ea : a3 = a := by rw [q4] at o5; have := Option.some.inj o5; omega
        subst ea
        obtain ⟨l, l60, lb, lz, lr⟩ := rows_of hr
        have hpT := prA_tl t5
        have l0' : ln' = 0 := (t7.2.2.1 (by decide)).2
        subst l0'
        -- the class
        obtain ⟨W1, J1, e1, h1, f1⟩ := s60_167 (L := L) (R := R) (o7 V I) (by omega)
        have lz1 : rwZ W1 J1 l := ⟨(f1.1 118 2 (by decide)).trans lz.1, by rw [f1.2.1 119 (by decide), f1.2.1 120 (by decide)]; exact lz.2⟩
        obtain ⟨W2, J2, e2, h2, f2, u2⟩ := c_285_167 (L := L) (R := R) (tl := tl) (N := N) (by omega) l60 lb o1 o2 (f1.2.2 hw) h1 lz1
        have kW : keep V W2 I J2 := keep_t (keep_1 (by decide) f1) (keep_Z (.inl rfl) f2 u2)
        have w2 := kW.2.2 hw
        have jr := kW.2.1
        -- the reference, up to the end of the rows
        have ref : ∀ x : Int64, ∃ W J Q, fm_555 N (.ref 174) (nI b) (nI c) (fx W2 J2 (outL L x) R ++ tl) = fg_555_130 N (.ref 174) (nI c) (bI (gov l P).isSome) (fx W J (outL L x) R ++ tl) ∧ rA W J 0 Q ∧ okP Q ∧ (∀ Q', gov l P = some Q' → Q = Q') ∧ keep V W I J ∧ W 174 0 = .int 0 := fun x => by
          obtain ⟨W3, J3, e3, h3, f3, u3⟩ := s391 (V := vup W2 174 0 (.int 0)) (I := J2) (L := outL L x) (R := R) (tl := tl) (N := N) (b := b) (by omega) (by omega) o1 o2 (by rw [jr 175 (by decide)]; exact q1) (by rw [jr 176 (by decide)]; exact o3) (by rw [jr 177 (by decide)]; exact o4) (by rw [jr 184 (by decide), jr 185 (by decide)]; exact o6)
          have lr3 : rwR W3 J3 l := rwR_u u3 ⟨(kW.1 174 115 (by decide)).trans lr.1, by rw [jr 248 (by decide), jr 249 (by decide)]; exact lr.2⟩
          obtain ⟨W4, J4, Q, e4, h4, o4', g4, f4, u4⟩ := r_555l (L := outL L x) (R := R) (tl := tl) (N := N) (b := c) (by omega) l60 lb l.length 0 N P W3 J3 (by omega) (by omega) o1 h3 lr3
          refine ⟨W4, J4, Q, ?_, h4, o4', g4, keep_t kW (keep_t keep_0 (keep_t (keep_X f3 u3) (keep_X f4 u4))), (f4.1 174 0 (by decide)).trans ((f3.1 174 0 (by decide)).trans rfl)⟩
          refine r_555h (n := n) (kd := 0) (kd' := 0) ((kW.1 174 1 (by decide)).trans b3) b1 hb hc (by rw [jr 175 (by decide)]; exact q1) (by rw [jr 175 (by decide)]; exact t1) (by omega) (by omega) ?_
          rw [if_pos ⟨rfl, rfl⟩]
          exact ev_i rfl (ev_cV e3 e4)
        have hd284 : ∀ o, (if bI (gov l P).isSome = 0 then (fg_284_68 N (fx W2 J2 L R ++ tl)) else ((am_vR (am_pG 2831 (.ref 0) (fx W2 J2 L R ++ tl))).bind fun v30 => (if am_pOk 3 v30 (fx W2 J2 L R ++ tl) then am_cI true (fm_86 N v30 (.ref (269 + a')) (fx W2 J2 L R ++ tl)) (fun v33 h34 => (if v33 = 0 then (fg_284_68 N h34) else (fg_284_69 N 1 h34))) else none))) = o → fm_284 N (.ref 0) (nI b) (nI c) (fx V I L R ++ tl) = o := fun o h => by
          apply hm_284
          apply hd_284_0
          exact ev_i rfl (ev_cR (c_63 b2 b1 hb q4) rfl (ev_i rfl (ev_cR (c_63 b2 b1 hc t4) rfl (ev_b (ev_gI pp1 rfl rfl) (ev_f (fun e => e rfl) (ev_b (ev_gI pp2 rfl rfl) (ev_t rfl (ev_b (rdR rfl) (ev_i rfl (ev_cV e1 (ev_b (rdR rfl) (ev_b (rdR rfl) (ev_i rfl (ev_cI e2 h))))))))))))))
        cases eg : gov l P with
        | none =>
          rw [eg] at hd284
          have ec : fm_284 N (.ref 0) (nI b) (nI c) (fx V I L R ++ tl) = some (.inl (some (.int (bI false)), fx W2 J2 L R ++ tl)) := hd284 _ (ev_t rfl rfl)
          obtain ⟨W4, J4, Q, e4, h4, o4', g4, k4, z4⟩ := ref (if false = true then 1 else 0)
          rw [eg] at e4
          obtain ⟨W5, J5, e5, h5, x1, x2, f5⟩ := s442 (L := outL L (if false = true then 1 else 0)) (R := R) (tl := tl) (N := N) (by omega) h4.1 h4.2.1 h4.2.2.1 (by rw [tI_len]; have := h4.2.2.2.2; omega)
          refine ⟨_, opZ (b := false) (W' := W5) (J' := J5) (wrap_283 ec) ?_ ((f5.1 174 0 (by decide)).trans z4) outL_at, inv_mk (rel_k (keep_t k4 (keep_X (frX_d f5) (frU3_d f5))) (rel_ol _ hr)) (room_up hm)⟩
          refine e4.trans ?_
          apply hd_555_130
          exact ev_i rfl (ev_cV e5 (ev_t rfl rfl))
        | some Q' =>
          rw [eg] at hd284
          obtain ⟨h2', z1, z2⟩ := h2 Q' eg
          have sQ : sound 0 0 Q'.length (fun k => nI (xS Q' k)) (fun k => xV Q' k) := sound_T z1 z2 laySV
          obtain ⟨r1, m1, m2⟩ := c_86m (N := N) (h := fx W2 J2 L R ++ tl) (by omega) (prF_167 (L := L) (R := R) w2 h2'.1 h2'.2.1 h2'.2.2.1 h2'.2.2.2.1 W2 J2 L R (fun _ => rfl) rfl) (pg_tl (W := W2) (J := J2) (M := L) (Q := R) t5) (by show Q'.length * 2 ≤ 120; omega) (Nat.le_refl _) (itm_T (by decide) h2'.2.2.2.2 laySV) t6 sQ t7
          obtain ⟨bb, hbb⟩ : ∃ bb : Bool, r1 = bI bb ∧ (bb = true ↔ smP 0 0 Q'.length (fun k => nI (xS Q' k)) (fun k => xV Q' k) 0 0 sz' (fun k => I 184 (60 * c + k)) (fun k => I 185 (60 * c + k))) := by
            rcases m2 with ⟨h1, h2⟩ | ⟨h1, h2⟩
            · exact ⟨true, h1, ⟨fun _ => h2, fun _ => rfl⟩⟩
            · exact ⟨false, h1, ⟨fun e => absurd e (by decide), fun e => absurd e h2⟩⟩
          obtain ⟨hb1, hb2⟩ := hbb
          subst hb1
          have ec : fm_284 N (.ref 0) (nI b) (nI c) (fx V I L R ++ tl) = some (.inl (some (.int (bI bb)), fx W2 J2 L R ++ tl)) := hd284 _ (ev_f (bI_nz rfl) (ev_b (rdR rfl) (ev_i rfl (ev_cI m1 (by
            cases bb with
            | false => exact ev_t rfl rfl
            | true => exact ev_f (by decide) rfl)))))
          obtain ⟨W4, J4, Q, e4, h4, o4', g4, k4, z4⟩ := ref (if bb = true then 1 else 0)
          rw [eg] at e4
          have eQ := g4 Q' eg
          subst eQ
          obtain ⟨W5, J5, e5, h5, x1, x2, f5⟩ := s442 (L := outL L (if bb = true then 1 else 0)) (R := R) (tl := tl) (N := N) (by omega) h4.1 h4.2.1 h4.2.2.1 (by rw [tI_len]; have := h4.2.2.2.2; omega)
          have k5 := keep_t k4 (keep_X (frX_d f5) (frU3_d f5))
          have j5 := k5.2.1
          obtain ⟨r2, m3, m4⟩ := r_375 (V := W5) (I := J5) (L := outL L (if bb = true then 1 else 0)) (R := R) (tl := tl) (N := N) (b := c) (kd := 0) (ln := 0) (sz := Q.length) (kd' := 0) (ln' := 0) (sz' := sz') (s := fun k => nI (xS Q k)) (v := fun k => xV Q k) (by omega) (by omega) x1 (by have := h5.1; rw [tI_len] at this; exact this) x2 (by rw [j5 175 (by decide)]; exact t1) (by rw [j5 176 (by decide)]; exact t2) (by rw [j5 177 (by decide)]; exact t3) (fun k hk => lay_SV h5.2 hk) sQ (by rw [j5 184 (by decide), j5 185 (by decide)]; exact t7)
          rw [j5 184 (by decide), j5 185 (by decide)] at m4
          have er : r2 = bI bb := by
            rcases m4 with ⟨h1, h2⟩ | ⟨h1, h2⟩
            · rw [hb2.mpr h2]; exact h1
            · cases bb with
              | false => exact h1
              | true => exact absurd (hb2.mp rfl) h2
          subst er
          refine ⟨_, opZ (b := bb) (W' := W5) (J' := J5) (wrap_283 ec) ?_ ((f5.1 174 0 (by decide)).trans z4) outL_at, inv_mk (rel_k k5 (rel_ol _ hr)) (room_up hm)⟩
          refine e4.trans ?_
          apply hd_555_130
          refine ev_i rfl (ev_cV e5 (ev_f (bI_nz rfl) (ev_i rfl (ev_cI m3 ?_))))
          cases bb with
          | false => exact ev_t rfl rfl
          | true => exact ev_f (by decide) rfl
      · have ec : fm_284 N (.ref 0) (nI b) (nI c) (fx V I L R ++ tl) = some (.inl (some (.int (bI false)), fx V I L R ++ tl)) := by
          apply hm_284
          apply hd_284_0
          refine ev_i rfl (ev_cR (c_63 b2 b1 hb q4) rfl (ev_i rfl (ev_cR (c_63 b2 b1 hc t4) rfl (ev_b (ev_gI pp1 rfl rfl) ?_))))
          by_cases c1 : kd = 0
          · refine ev_f (fun e => e (by rw [c1]; rfl)) (ev_b (ev_gI pp2 rfl rfl) (ev_f (fun e => hk ⟨c1, (nI_eq (b := 0) (by omega) (by omega)).mp e⟩) rfl))
          · exact ev_t (fun e => c1 ((nI_eq (b := 0) (by omega) (by omega)).mp e)) rfl
        refine ⟨_, opZ (b := false) (wrap_283 ec) (r_555h b3 b1 hb hc q1 t1 k3 k3' (by rw [if_neg hk]; rfl)) rfl outL_at, inv_mk (rel_k keep_0 (rel_ol _ hr)) (room_up hm)⟩
