/-! ===== place(b) ===== -/
theorem lup_self {L : Nat → Nat → Int64} {a : Nat} : lup L a (L a) = L := by
  funext y
  by_cases c : y = a
  · rw [c, lup_eq]
  · rw [lup_na c]
set_option maxRecDepth 100000 in
set_option maxHeartbeats 1600000 in
theorem r_390e {V : Nat → Nat → Value} {I : Nat → Nat → Int32} {L : Nat → Nat → Int64} {R : Nat → Nat → Option Nat} {tl : am_H} {N n : Nat} {a : Int32} (b3 : V 174 1 = .int (nI n)) (b1 : n ≤ 600) (hn : a < 0 ∨ nI n ≤ a) : fm_390 N (.ref 174) a (fx V I L R ++ tl) = some (.inl (some (.long 0), fx (vup V 174 0 (.int 1)) I L R ++ tl)) := by
  unfold fm_390 fg_390_0
  refine ev_i rfl (ev_cI (r_358n b3 b1 hn) (ev_f (fun e => e rfl) ?_))
  unfold fg_390_62
  exact ev_b qp_174_0 (ev_b (a := 1) rfl (ev_f (by decide) rfl))
set_option maxRecDepth 100000 in
set_option maxHeartbeats 1600000 in
theorem r_390h {V : Nat → Nat → Value} {I : Nat → Nat → Int32} {L : Nat → Nat → Int64} {R : Nat → Nat → Option Nat} {tl : am_H} {N n b kd sz : Nat} {o : Option am_O} (b3 : V 174 1 = .int (nI n)) (b1 : n ≤ 600) (hb : b < n) (q1 : I 175 b = nI kd) (q2 : I 176 b = nI sz) (k3 : kd ≤ 3) (s60 : sz ≤ 60) (ho : fg_390_62 N (.ref 174) (nI b) (.ref 174) (if kd = 0 ∧ sz ≤ 12 then 0 else 2) (fx V I L R ++ tl) = o) : fm_390 N (.ref 174) (nI b) (fx V I L R ++ tl) = o := by
  unfold fm_390 fg_390_0
  refine ev_i rfl (ev_cI (r_358 b3 b1 hb) (ev_t (by decide) (ev_b (a := Value.ref 175) rfl (ev_i rfl (ev_cI (r_358 b3 b1 hb) (ev_f (by decide) ?_))))))
  unfold fg_390_30
  refine ev_b (a := nI kd) ((qa_175 (by omega)).trans (congrArg some q1)) ?_
  by_cases c : kd = 0
  · refine ev_f (fun e => e (by rw [c]; rfl)) (ev_b (a := Value.ref 176) rfl (ev_i rfl (ev_cI (r_358 b3 b1 hb) (ev_f (by decide) ?_))))
    unfold fg_390_51
    refine ev_b (a := nI sz) ((qa_176 (by omega)).trans (congrArg some q2)) ?_
    by_cases d : sz ≤ 12
    · rw [if_pos ⟨c, d⟩] at ho
      exact ev_t (nI_le (b := 12) d (by decide)) ho
    · rw [if_neg (fun e => d e.2)] at ho
      refine ev_f (nI_ge (a := 12) (by omega) (by omega)) ?_
      unfold fg_390_57
      exact ho
  · rw [if_neg (fun e => c e.1)] at ho
    refine ev_t (fun e => c ((nI_eq (b := 0) (by omega) (by omega)).mp e)) ?_
    unfold fg_390_57
    exact ho
set_option maxRecDepth 100000 in
set_option maxHeartbeats 1600000 in
theorem u_11 {V : Nat → Nat → Value} {I : Nat → Nat → Int32} {L : Nat → Nat → Int64} {R : Nat → Nat → Option Nat} {tl : am_H} {n p j : Nat} (hr : rel V I L R tl n p) (hm : room tl n p j) {N : Nat} (hN : 5000 < N) (a1 : Int32) : ∃ h', opBL (fm_96 N (.ref 0) a1 (.ref 268) (fx V I L R ++ tl)) (fun h1 => fm_390 N (.ref 174) a1 h1) vfI h' ∧ invW (j + 1) h' := by
  obtain ⟨b1, b2, b3⟩ := hr.1
  obtain ⟨r1, r2, r3⟩ := hr.2.2.2.2.2.2.2.2.2.2.1
  rcases dich a1 (n := n) (by omega) with hn | ⟨b, hb, rfl⟩
  · refine ⟨_, opBL_err (c := 1) (b := 0) (by decide) (tl := tl ++ [am_dummy]) ?_ (r_390e b3 b1 hn), inv_mk (rel_thr 1 (rel_dum hr)) (room_dum hm)⟩
    have e : fm_97 N (.ref 0) a1 (fx V I L R ++ tl) = some (.inr (2, (fx V I L R ++ (tl ++ [am_dummy])))) := by
      unfold fm_97 fg_97_0
      refine ev_i rfl ?_
      rw [c_63n b2 hn]
      rfl
    unfold fm_96 fg_96_0
    refine ev_i rfl ?_
    rw [e]
    rfl
  · obtain ⟨kd, ln, sz, a, it, f, q1, q2, q3, q4, q5, q6, q7, q8, q9⟩ := hr.2.1 b hb
    have p1 : (fx V I L R ++ tl)[269 + a]? = _ := tl_at.trans q5
    by_cases good : kd = 0 ∧ sz ≤ 12
    · obtain ⟨ck, s12⟩ := good
      subst ck
      obtain ⟨l, l1, l2, l3⟩ := q8.2.2.2.1 rfl
      subst l1
      have h0 := (cx0 l2).2
      have hF := okF_F l _ l2
      have qi := q7
      unfold itm at qi
      rw [if_neg (by decide)] at qi
      obtain ⟨v, hv⟩ : ∃ v : Nat → Int32, v = fun k => I 185 (60 * b + k) := ⟨_, rfl⟩
      have hS : ∀ k x r, l.drop k = x :: r → f (k * 2) = nI x.1 ∧ x.1 ≤ 20 := fun k x r hd => ⟨(qi k (by have := drop_len hd; omega)).1.trans (l3 k x r hd).1, (form_at l2 hd).1⟩
      have hp : prA V I tl (269 + a) (269 + it) 0 ln l.length (l.length * wdN 0) f := prA_tl ⟨_, _, _, _, _, _, p1, tl_at.trans q6⟩
      have gg : ∀ (W : Nat → Nat → Value) (J : Nat → Nat → Int32) (M : Nat → Nat → Int64) (Q : Nat → Nat → Option Nat) (k : Nat) (x : Nat × Nat) (r : List (Nat × Nat)), l.drop k = x :: r → fm_54 (.ref (269 + a)) (nI k) 0 (fx W J M Q ++ tl) = some (.inl (some (.int (nI x.1)), fx W J M Q ++ tl)) ∧ fm_54 (.ref (269 + a)) (nI k) 1 (fx W J M Q ++ tl) = some (.inl (some (.int (v k)), fx W J M Q ++ tl)) := fun W J M Q k x r hd => by
        have hpg : pg (fx W J M Q ++ tl) (269 + a) (269 + it) 0 ln l.length (l.length * wdN 0) f := ⟨_, _, _, _, _, _, tl_at.trans q5, tl_at.trans q6⟩
        have kl : k < l.length := by have := drop_len hd; omega
        have g0 := c_54 (k := k) (w := 0) hpg (Nat.le_refl _) (by show l.length * 2 ≤ 1000; omega) (by omega) kl (by decide)
        have g1 := c_54 (k := k) (w := 1) hpg (Nat.le_refl _) (by show l.length * 2 ≤ 1000; omega) (by omega) kl (by decide)
        rw [show wdN 0 = 2 from rfl, Nat.add_zero, (hS k x r hd).1] at g0
        rw [show wdN 0 = 2 from rfl, (qi k kl).2] at g1
        rw [hv]
        exact ⟨g0, g1⟩
      obtain ⟨g, e1, e2⟩ := c_77_79 (V := vup V 76 3 (.ref (269 + a))) (I := I) (L := L) (R := R) (tl := tl) (N := N) (by omega) (by decide) (fun W J L' R' hW hJ => hp W J L' R' (fun j => (hW j).trans (vup_na (by omega))) hJ) (by omega) (by omega) (Nat.le_refl _) (by show l.length * 2 ≤ 1000; omega) (by omega) hS hF
      obtain ⟨V1, hV1⟩ : ∃ V1, V1 = vup (vup V 76 3 (.ref (269 + a))) 79 7 (.int (nI l.length)) := ⟨_, rfl⟩
      rw [← hV1] at e2
      obtain ⟨J1, hJ1⟩ : ∃ J1, J1 = iup I 80 g := ⟨_, rfl⟩
      rw [← hJ1] at e2
      have j1 : ∀ y, y ≠ 80 → J1 y = I y := fun y h => by rw [hJ1, iup_na h]
      have tws : ∀ k x r, l.drop k = x :: r → (x.1 = 0 → two (v k)) ∧ (x.1 ≠ 0 → v k = 0) := fun k x r hd => by rw [hv]; exact ⟨(l3 k x r hd).2.1, (l3 k x r hd).2.2⟩
      have kV : keep V V1 I J1 := by
        refine ⟨fun a' j' hj' => ?_, fun y hy => j1 y (by
          have key : ∀ y, y ∈ iRel → y ≠ 80 := by decide
          exact key y hy), fun w => by rw [hV1]; exact wt_i (wt_o (by decide) (by decide) w) (by decide)⟩
        rw [hV1]
        by_cases c : a' = 79
        · subst c; exact absurd hj' (fun e => by cases e)
        · rw [vup_na c]
          by_cases c' : a' = 76
          · subst c'; exact absurd hj' (fun e => by cases e)
          · exact vup_na c'
      have b3' : ∀ x : Int32, vup V1 174 0 (.int x) 174 1 = .int (nI n) := fun x => by rw [vup_v (by omega), kV.1 174 1 (by decide)]; exact b3
      have hcv : ckA l v l.length 0 = true → ∀ k x r, l.drop k = x :: r → x.1 = 0 → (v k).toInt64 = lN (clN v k) := fun hck k x r hd hx => by
        obtain ⟨y1, y2⟩ := ckA_at _ _ hck k (by omega) (by have := drop_len hd; omega) (by rw [sL_at hd, hx])
        exact cst ((tws k x r hd).1 hx) y1 y2
      have hv0 : ∀ k x r, l.drop k = x :: r → x.1 ≠ 0 → clN v k = 0 := fun k x r hd hx => by
        unfold clN
        rw [(tws k x r hd).2 hx]
        rfl
      have ref : ∀ (M : Nat → Nat → Int64) (W : Nat → Nat → Value) (J : Nat → Nat → Int32), keep V W I J → M 224 = L 224 → M 225 = L 225 → ∃ (W2 : Nat → Nat → Value) (J2 : Nat → Nat → Int32) (M2 : Nat → Nat → Int64), W2 174 0 = .int 0 ∧ M2 268 = M 268 ∧ (rel W J M R tl n p → rel W2 J2 M2 R tl n p) ∧ fm_390 N (.ref 174) (nI b) (fx W J M R ++ tl) = some (.inl (some (.long (if ckA l v l.length 0 = true then lN (rR l v 0) else -1)), fx W2 J2 M2 R ++ tl)) := fun M W J kW m4 m5 => by
        have i0 : rInv (vup W 174 0 (.int 0)) M := by
          have e80 : vup W 174 0 (.int 0) 174 80 = V 174 80 := by rw [vup_v (by omega)]; exact kW.1 174 80 (by decide)
          unfold rInv at r3 ⊢
          rw [e80, m4, m5]
          exact r3
        obtain ⟨W1, M1, t1, t2, t3, t4, t5, t6, t7⟩ := x_377w (V := vup W 174 0 (.int 0)) (I := J) (L := M) (R := R) (tl := tl) (N := N) (by omega) i0 (wt_i (kW.2.2 (rel_w hr)) (by decide))
        have jj : ∀ y, y ∈ iRel → J y = I y := kW.2.1
        obtain ⟨G, u1, u2⟩ := r_391t (V := W1) (I := J) (L := M1) (R := R) (tl := tl) (N := N) (b := b) (ln := ln) (l := l) (by omega) (by omega) (by omega) hF (by rw [jj 175 (by decide)]; exact q1) (by rw [jj 176 (by decide)]; exact q2) (by rw [jj 177 (by decide)]; exact q3) (fun k x r hd => by rw [jj 184 (by decide)]; exact ⟨(l3 k x r hd).1, (form_at l2 hd).1⟩)
        obtain ⟨W2, hW2⟩ : ∃ W2, W2 = dk2V W1 0 ln l.length := ⟨_, rfl⟩
        obtain ⟨J2, hJ2⟩ : ∃ J2, J2 = iup (dk2I J b l.length) 192 G := ⟨_, rfl⟩
        rw [← hW2, ← hJ2] at u2
        have w18 : W2 174 18 = .int (nI l.length) := by rw [hW2]; show vup _ 174 19 _ 174 18 = _; rw [vup_v (by omega), vup_eq]
        have w0 : W2 174 0 = .int 0 := by
          rw [hW2]
          unfold dk2V
          rw [vup_v (by omega), vup_v (by omega), vup_v (by omega), t5 174 0 (by decide), vup_eq]
        have wtW2 : wt W2 := by rw [hW2]; exact (keep_dk2 (I := J) (b := b)).2.2 t7
        have d188 : ∀ k x r, l.drop k = x :: r → J2 188 k = nI x.1 ∧ J2 189 k = v k := fun k x r hd => by
          have kl : k < l.length := by have := drop_len hd; omega
          rw [hJ2, iup_na (by decide), iup_na (by decide)]
          refine ⟨(ldr_at kl).trans (by rw [jj 184 (by decide)]; exact (l3 k x r hd).1), (ldr_at kl).trans (by rw [jj 185 (by decide), hv])⟩
        have hT : rowT (J2 192) l 0 := by rw [hJ2, iup_eq]; exact u1
        have rel2 : rel W J M R tl n p → rel W2 J2 M1 R tl n p := fun h => by
          rw [hW2, hJ2]
          exact rel_k (keep_t keep_dk2 (keep_i (by decide))) (rel_80 t5 t6 (.inr ⟨t2, t3, t4⟩) t7 (rel_thr 0 h))
        have m268 : M1 268 = M 268 := t6 268 (by decide) (by decide) (by decide)
        have head : ∀ o, fg_390_85 N N (.ref 174) 0 (fx W2 J2 M1 R ++ tl) = o → fm_390 N (.ref 174) (nI b) (fx W J M R ++ tl) = o := fun o hO => by
          refine r_390h (n := n) (kd := 0) (sz := l.length) ((kW.1 174 1 (by decide)).trans b3) b1 hb (by rw [jj 175 (by decide)]; exact q1) (by rw [jj 176 (by decide)]; exact q2) (by omega) (by omega) ?_
          rw [if_pos ⟨rfl, s12⟩]
          unfold fg_390_62
          exact ev_b qp_174_0 (ev_b (a := 0) rfl (ev_t (by decide) (ev_i rfl (ev_cV t1 (ev_i rfl (ev_cV u2 hO))))))
        by_cases hck : ckA l v l.length 0 = true
        · obtain ⟨g2, x1, x2⟩ := r_390w (V := W2) (I := J2) (L := M1) (R := R) (tl := tl) (N := N) (by omega) l2 s12 w18 (fun k x r hd => (d188 k x r hd).1) hT l [(0, 1, 0)] 0 N (upd (J2 232) 0 0) List.drop_zero (by omega) l2 List.drop_zero (by omega) (fun j hj => by omega) (fun i c hc => by
            cases i with
            | zero =>
              obtain rfl : (0, 1, 0) = c := Option.some.inj hc
              rw [tk_0, Nat.add_zero, upd_eq]
              rfl
            | succ i => cases hc)
          obtain ⟨M', y1⟩ := r_390u (V := W2) (I := iup J2 232 g2) (L := M1) (R := R) (tl := tl) (N := N) (v := v) (by omega) l2 s12 wtW2 t3 t4 (fun k x r hd => d188 k x r hd) hT (fun k hk => by rw [iup_eq]; exact x1 k hk) (hcv hck) hv0 l.length N (M1 231) (Nat.le_refl _) (by omega) (fun j j1 j2 => by omega)
          rw [lup_self] at y1
          refine ⟨W2, iup J2 232 g2, lup M1 231 M', w0, (lup_na (by decide)).trans m268, fun h => rel_kl ⟨keep_i (by decide), fun y hy => lup_na (by
            have key : ∀ y, y ∈ lRel → y ≠ 231 := by decide
            exact key y hy)⟩ (rel2 h), head _ ?_⟩
          rw [if_pos hck]
          have q := r_390c (V := W2) (I := J2) (L := M1) (R := R) (tl := tl) (N := N) (l := l) (v := v) (o := some (.inl (some (.long (lN (rR l v 0))), fx W2 (iup J2 232 g2) (lup M1 231 M') R ++ tl))) s12 w18 (fun k x r hd => ⟨(d188 k x r hd).1, (d188 k x r hd).2, (form_at l2 hd).1⟩) (ev_b (a := Value.ref 232) rfl (ev_b (a := fx W2 (iup J2 232 (upd (J2 232) 0 0)) M1 R ++ tl) (qs_232 (k := 0) (by omega)) (x2.trans (by rw [Int32.sub_eq_add_neg]; exact y1)))) l.length 0 N (by omega) (by omega)
          rw [if_pos hck] at q
          exact q
        · refine ⟨W2, J2, M1, w0, m268, rel2, head _ ?_⟩
          rw [if_neg hck]
          have q := r_390c (V := W2) (I := J2) (L := M1) (R := R) (tl := tl) (N := N) (l := l) (v := v) s12 w18 (fun k x r hd => ⟨(d188 k x r hd).1, (d188 k x r hd).2, (form_at l2 hd).1⟩) rfl l.length 0 N (by omega) (by omega)
          rw [if_neg hck] at q
          exact q
      -- the class
      have cls : ∃ (W : Nat → Nat → Value) (J : Nat → Nat → Int32), keep V W I J ∧ fm_98 N (.ref 76) (.ref (269 + a)) (fx V I L R ++ tl) = some (.inl (some (.long (if ckA l v l.length 0 = true then lN (rR l v 0) else -1)), fx W J L R ++ tl)) := by
        by_cases hck : ckA l v l.length 0 = true
        · have hE : rkE V1 J1 L R tl (269 + a) l v := ⟨by rw [hV1, vup_na (by decide), vup_eq], r1, r2, by rw [hV1, vup_eq], fun j hj => by rw [hJ1, iup_eq]; exact e1 j hj, ev_ok (tl_at.trans q5), fun k x r hd => gg V1 J1 L R k x r hd, fun k x r hd ha => by
            by_cases hx : x.1 = 0
            · exact hcv hck k x r hd hx
            · unfold clN
              rw [(tws k x r hd).2 hx]
              rfl⟩
          have e3 := c_99 (V := V1) (I := J1) (L := L) (R := R) (tl := tl) (N := N) (by omega) l2 s12 hE 12 0 40 (by unfold dpL; rw [(cx0 l2).1]) h0 (by omega)
          rw [show ctL l 0 = 0 by unfold ctL; rw [(cx0 l2).1]; rfl, show dpL l 0 = 1 by unfold dpL; rw [(cx0 l2).1]] at e3
          have q := c_98l (V := V) (I := I) (L := L) (R := R) (tl := tl) (A := 269 + a) (N := N) (l := l) (v := v) (o := some (.inl (some (.long (lN (rR l v 0))), fx V1 J1 L R ++ tl))) s12 (ev_gI p1 rfl rfl) (ev_ok p1) (fun k x r hd => ⟨(gg V I L R k x r hd).1, (gg V I L R k x r hd).2, (form_at l2 hd).1⟩) (ev_b qp_76_3 (ev_b (a := Value.ref 79) rfl (ev_i rfl (ev_cV e2 (ev_i rfl (ev_cL (v := lN (rR l v 0)) (h1 := fx V1 J1 L R ++ tl) e3 rfl)))))) l.length 0 N (by omega) (by omega)
          rw [if_pos hck] at q
          refine ⟨V1, J1, kV, ?_⟩
          rw [if_pos hck]
          exact q
        · have q := c_98l (V := V) (I := I) (L := L) (R := R) (tl := tl) (A := 269 + a) (N := N) (l := l) (v := v) s12 (ev_gI p1 rfl rfl) (ev_ok p1) (fun k x r hd => ⟨(gg V I L R k x r hd).1, (gg V I L R k x r hd).2, (form_at l2 hd).1⟩) rfl l.length 0 N (by omega) (by omega)
          rw [if_neg hck] at q
          refine ⟨V, I, keep_r, ?_⟩
          rw [if_neg hck]
          exact q
      obtain ⟨W, J, kW, eC⟩ := cls
      obtain ⟨w, hw⟩ : ∃ w : Int64, w = if ckA l v l.length 0 = true then lN (rR l v 0) else -1 := ⟨_, rfl⟩
      rw [← hw] at eC
      obtain ⟨W2, J2, M2, z1, z2, z3, z4⟩ := ref (outL L w) W J kW (lup_na (by decide)) (lup_na (by decide))
      rw [← hw] at z4
      refine ⟨_, opBL_g (v := w) (W := W) (J := J) (M := outL L w) (R1 := R) (t1 := tl) ?_ z4 z1 (by rw [z2]; exact outL_at), inv_mk (z3 (rel_ol _ (rel_k kW hr))) (room_up hm)⟩
      have e : fm_97 N (.ref 0) (nI b) (fx V I L R ++ tl) = some (.inl (some (.long w), fx W J L R ++ tl)) := by
        unfold fm_97 fg_97_0
        exact ev_i rfl (ev_cR (c_63 b2 b1 hb q4) rfl (ev_b (ev_gI p1 rfl rfl) (ev_f (fun e => e rfl) (ev_b (ev_gI p1 rfl rfl) (ev_t (nI_le (b := 12) s12 (by decide)) (ev_b (a := Value.ref 76) rfl (ev_i rfl (ev_cL eC rfl))))))))
      unfold fm_96 fg_96_0
      refine ev_i rfl ?_
      rw [e]
      exact ev_b out_s rfl
    · have k3 := q8.1
      have s60 := q8.2.1
      refine ⟨_, opBL_err (c := 2) (b := 0) (by decide) (tl := tl ++ [am_dummy]) ?_ (r_390h b3 b1 hb q1 q2 k3 s60 (by rw [if_neg good]; unfold fg_390_62; exact ev_b qp_174_0 (ev_b (a := 2) rfl (ev_f (by decide) rfl)))), inv_mk (rel_thr 2 (rel_dum hr)) (room_dum hm)⟩
      have e : fm_97 N (.ref 0) (nI b) (fx V I L R ++ tl) = some (.inr (0, (fx V I L R ++ (tl ++ [am_dummy])))) := by
        rw [← List.append_assoc]
        unfold fm_97 fg_97_0
        refine ev_i rfl (ev_cR (c_63 b2 b1 hb q4) rfl (ev_b (ev_gI p1 rfl rfl) ?_))
        by_cases c : kd = 0
        · exact ev_f (fun e => e (by rw [c]; rfl)) (ev_b (ev_gI p1 rfl rfl) (ev_f (nI_ge (a := 12) (by omega) (by omega)) rfl))
        · exact ev_t (fun e => c ((nI_eq (b := 0) (by omega) (by omega)).mp e)) rfl
      unfold fm_96 fg_96_0
      refine ev_i rfl ?_
      rw [e]
      rfl
