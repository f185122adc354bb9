/-! ===== move(from, to) ===== -/
theorem opBZ_g {W W' : Nat → Nat → Value} {J J' : Nat → Nat → Int32} {M M' : Nat → Nat → Int64} {R1 R2 : Nat → Nat → Option Nat} {t1 t2 : am_H} {w : Option am_O} {r : am_H → Option am_O} {v : Int32} (h01 : v = 0 ∨ v = 1) (hw : w = some (.inl (some (.int 0), fx W J M R1 ++ t1))) (hr : r (fx W J M R1 ++ t1) = some (.inl (some (.int v), fx W' J' M' R2 ++ t2))) (h0 : W' 174 0 = .int 0) (hL : M' 268 0 = v.toInt64) : opBI w r vfZ (fx W' J' M' R2 ++ t2) := ⟨0, _, v, v.toInt64, hw, rfl, hr, rfl, by show am_vI (some (W' 174 0)) = _; rw [h0]; rfl, fun _ => ⟨(ev_aL (f := M' 268) (n := 1) rfl rfl).trans (by rw [show (0 : Int32).toNatClampNeg = 0 from rfl, hL]), by rcases h01 with rfl | rfl <;> rfl⟩⟩
theorem is_in {i : Nat} (hi : i < 4) : 41 + 9 * i ∈ iRel := by
  rcases (by omega : i = 0 ∨ i = 1 ∨ i = 2 ∨ i = 3) with rfl | rfl | rfl | rfl <;> decide
theorem is_y {i : Nat} (hi : i < 4) : 41 + 9 * i = 41 ∨ 41 + 9 * i = 50 ∨ 41 + 9 * i = 59 ∨ 41 + 9 * i = 68 := by omega
theorem keep_u {V W : Nat → Nat → Value} {I J : Nat → Nat → Int32} {y k : Nat} {x : Int32} (hy : y ∈ iRel) (h : keep V W I J) : keep V W (iup I y (upd (I y) k x)) (iup J y (upd (J y) k x)) := ⟨h.1, fun z hz => by
    by_cases e : z = y
    · subst e
      rw [iup_eq, iup_eq, h.2.1 z hz]
    · rw [iup_na e, iup_na e]
      exact h.2.1 z hz, h.2.2⟩
theorem bK_i {R : Nat → Nat → Option Nat} {tl : am_H} {I0 : Nat → Nat → Int32} {b y : Nat} {F : Nat → Int32} (hy : y = 41 ∨ y = 50 ∨ y = 59 ∨ y = 68) (h : bK R tl I0 b) : bK R tl (iup I0 y F) b := by
  rcases hy with rfl | rfl | rfl | rfl <;> exact h
theorem oB_i {I0 : Nat → Nat → Int32} {lm n m y : Nat} {F : Nat → Int32} {Ob : Nat → Nat → Int32 × Nat × Int32} (hy : y = 41 ∨ y = 50 ∨ y = 59 ∨ y = 68) (h : oB I0 lm n m Ob) : oB (iup I0 y F) lm n m Ob := by
  rcases hy with rfl | rfl | rfl | rfl <;> exact h
theorem csK_i0 {V : Nat → Nat → Value} {I I0 : Nat → Nat → Int32} {m y : Nat} {F G : Nat → Int32} (hy : y = 41 ∨ y = 50 ∨ y = 59 ∨ y = 68) (hc : csK V I I0 m) : csK V (iup I y G) (iup I0 y F) m := by
  obtain ⟨c1, c2, c3, c4, c5, c6⟩ := hc
  refine ⟨c1, c2, c3, ?_, fun z h1 h2 => ?_, fun k hk => ?_⟩
  · rw [iup_na (by omega), iup_na (by omega)]; exact c4
  · rw [iup_na (by omega), iup_na (by omega)]; exact c5 z h1 h2
  · have h := c6 k hk
    rcases hy with rfl | rfl | rfl | rfl <;> exact h
theorem bt_i {I0 : Nat → Nat → Int32} {m y : Nat} {F : Nat → Int32} {Ob : Nat → Nat → Int32 × Nat × Int32} {bm : Nat → Nat} (hy : y = 41 ∨ y = 50 ∨ y = 59 ∨ y = 68) : btr (fun x => ctN (iup I0 y F) 0 (Ob (bm x)) m) (fun x => szB (iup I0 y F) (bm x)) bm = btr (fun x => ctN I0 0 (Ob (bm x)) m) (fun x => szB I0 (bm x)) bm := by
  rcases hy with rfl | rfl | rfl | rfl <;> rfl
theorem mbK_c {i i' : Nat} {I0 : Nat → Nat → Int32} {m : Nat} {F : Nat → Int32} {Ob : Nat → Nat → Int32 × Nat × Int32} {bm : Nat → Nat} {V W : Nat → Nat → Value} {I J : Nat → Nat → Int32} {L M : Nat → Nat → Int64} {x : Nat} (hn : i ≠ i') (hf : frK i' V W I J L M) (h : mbK i I0 m F Ob bm I L x) : mbK i I0 m F Ob bm J M x := by
  obtain ⟨h1, h2, h3⟩ := h
  refine ⟨?_, ?_, fun r hr => ?_⟩
  · rw [hf.2.2.2.1 _ (by omega)]; exact h1
  · rw [hf.2.2.1 _ (by omega) (by omega) (by omega) (by omega) (by omega) (by omega)]; exact h2
  · rw [hf.2.2.1 _ (by omega) (by omega) (by omega) (by omega) (by omega) (by omega)]; exact h3 r hr
theorem mul16 (i : Nat) : (16 : Int32) * nI i = nI (16 * i + 0) := (nI_mul 16 i).symm
set_option maxRecDepth 100000 in
set_option maxHeartbeats 1600000 in
/-- nothing is moved -/
theorem mv_no {V : Nat → Nat → Value} {I : Nat → Nat → Int32} {L : Nat → Nat → Int64} {R : Nat → Nat → Option Nat} {tl : am_H} {n p j : Nat} (hr : rel V I L R tl n p) (hm : room tl n p j) {N : Nat} {a1 a2 : Int32} (e : fm_232 N (.ref 0) a1 a2 (fx V I L R ++ tl) = some (.inl (some (.int 0), (fx V I L R ++ tl)))) (e2 : fm_518 N (.ref 174) a1 a2 (fx V I (outL L 0) R ++ tl) = some (.inl (some (.int 0), (fx (vup V 174 0 (.int 0)) I (outL L 0) R ++ tl)))) : ∃ h', opBI (fm_231 N (.ref 0) a1 a2 (.ref 268) (fx V I L R ++ tl)) (fun h1 => fm_518 N (.ref 174) a1 a2 h1) vfZ h' ∧ invW (j + 1) h' := by
  refine ⟨_, opBZ_g (v := 0) (W := V) (J := I) (M := outL L 0) (R1 := R) (t1 := tl) (W' := vup V 174 0 (.int 0)) (J' := I) (M' := outL L 0) (R2 := R) (t2 := tl) (.inl rfl) ?_ e2 vup_eq outL_at, inv_mk (rel_thr 0 (rel_ol _ hr)) (room_up hm)⟩
  unfold fm_231 fg_231_0
  refine ev_i rfl ?_
  rw [e]
  refine ev_t (c := (0 : Int32) = 0) rfl ?_
  unfold fg_231_16
  exact ev_b out_s rfl
set_option maxRecDepth 100000 in
set_option maxHeartbeats 1600000 in
theorem u_36 {V : Nat → Nat → Value} {I : Nat → Nat → Int32} {L : Nat → Nat → Int64} {R : Nat → Nat → Option Nat} {tl : am_H} {n p j : Nat} (hr : rel V I L R tl n p) (hm : room tl n p j) {N : Nat} (hN : 5000 < N) (a1 a2 : Int32) : ∃ h', opBI (fm_231 N (.ref 0) a1 a2 (.ref 268) (fx V I L R ++ tl)) (fun h1 => fm_518 N (.ref 174) a1 a2 h1) vfZ h' ∧ invW (j + 1) h' := by
  obtain ⟨b1, b2, b3⟩ := hr.1
  rcases dich a1 (n := 4) (by omega) with hn | ⟨i, hi, rfl⟩
  · refine ⟨_, opBI_err (c := 1) (b := 0) (by decide) (tl := tl ++ [am_dummy]) ?_ ?_, inv_mk (rel_thr 1 (rel_dum hr)) (room_dum hm)⟩
    · have e : fm_232 N (.ref 0) a1 a2 (fx V I L R ++ tl) = some (.inr (2, (fx V I L R ++ (tl ++ [am_dummy])))) := by
        unfold fm_232 fg_232_0
        refine ev_i rfl ?_
        rw [c_201n hn]
        rfl
      unfold fm_231 fg_231_0
      refine ev_i rfl ?_
      rw [e]
      rfl
    · show fm_518 N (.ref 174) a1 a2 (fx V I L R ++ (tl ++ [am_dummy])) = _
      unfold fm_518 fg_518_0
      refine ev_i rfl (ev_cI (t489n hn) (ev_t rfl ?_))
      unfold fg_518_21 fg_518_22
      exact ev_b qp_174_0 (ev_b (a := 1) rfl (ev_t (by decide) rfl))
  · rcases dich a2 (n := 4) (by omega) with hn | ⟨i', hi', rfl⟩
    · refine ⟨_, opBI_err (c := 1) (b := 0) (by decide) (tl := tl ++ [am_dummy]) ?_ ?_, inv_mk (rel_thr 1 (rel_dum hr)) (room_dum hm)⟩
      · have e : fm_232 N (.ref 0) (nI i) a2 (fx V I L R ++ tl) = some (.inr (2, (fx V I L R ++ (tl ++ [am_dummy])))) := by
          unfold fm_232 fg_232_0
          refine ev_i rfl (ev_cR (c_201 hi) rfl (ev_i rfl ?_))
          rw [c_201n hn]
          rfl
        unfold fm_231 fg_231_0
        refine ev_i rfl ?_
        rw [e]
        rfl
      · show fm_518 N (.ref 174) (nI i) a2 (fx V I L R ++ (tl ++ [am_dummy])) = _
        unfold fm_518 fg_518_0
        refine ev_i rfl (ev_cI (t489v hi) (ev_f (by decide) (ev_i rfl (ev_cI (t489n hn) (ev_t rfl ?_)))))
        unfold fg_518_21 fg_518_22
        exact ev_b qp_174_0 (ev_b (a := 1) rfl (ev_t (by decide) rfl))
    · by_cases ii : i = i'
      · subst ii
        refine mv_no hr hm ?_ ?_
        · unfold fm_232 fg_232_0
          exact ev_i rfl (ev_cR (c_201 hi) rfl (ev_i rfl (ev_cR (c_201 hi) rfl (ev_t rfl rfl))))
        · unfold fm_518 fg_518_0
          refine ev_i rfl (ev_cI (t489v hi) (ev_f (by decide) (ev_i rfl (ev_cI (t489v hi) (ev_f (by decide) ?_)))))
          unfold fg_518_22
          exact ev_b qp_174_0 (ev_b (a := 0) rfl (ev_f (by decide) (ev_t rfl rfl)))
      · have nii : ¬ nI i = nI i' := fun e => ii ((nI_eq (by omega) (by omega)).mp e)
        obtain ⟨c, kd, bm, c16, s2, s3, s5⟩ := isl_ld hr hi
        obtain ⟨c', kd', bm', c16', s2', s3', s5'⟩ := isl_ld hr hi'
        by_cases c0 : c = 0
        · subst c0
          refine mv_no hr hm ?_ ?_
          · unfold fm_232 fg_232_0
            exact ev_i rfl (ev_cR (c_201 hi) rfl (ev_i rfl (ev_cR (c_201 hi') rfl (ev_f nii (ev_b (iv_0 hi s2) (ev_t rfl rfl))))))
          · unfold fm_518 fg_518_0
            refine ev_i rfl (ev_cI (t489v hi) (ev_f (by decide) (ev_i rfl (ev_cI (t489v hi') (ev_f (by decide) ?_)))))
            unfold fg_518_22
            exact ev_b qp_174_0 (ev_b (a := 0) rfl (ev_f (by decide) (ev_f nii (ev_b (a := Value.ref 233) rfl (ev_b (a := nI 0) ((qa_233 hi).trans (by rw [s3])) (ev_t rfl rfl))))))
        · by_cases c0' : c' = 0
          · subst c0'
            refine mv_no hr hm ?_ ?_
            · unfold fm_232 fg_232_0
              exact ev_i rfl (ev_cR (c_201 hi) rfl (ev_i rfl (ev_cR (c_201 hi') rfl (ev_f nii (ev_b (iv_0 hi s2) (ev_f (nI_ne0 (by omega) (by omega)) (ev_b (iv_0 hi' s2') (ev_t rfl rfl))))))))
            · unfold fm_518 fg_518_0
              refine ev_i rfl (ev_cI (t489v hi) (ev_f (by decide) (ev_i rfl (ev_cI (t489v hi') (ev_f (by decide) ?_)))))
              unfold fg_518_22
              exact ev_b qp_174_0 (ev_b (a := 0) rfl (ev_f (by decide) (ev_f nii (ev_b (a := Value.ref 233) rfl (ev_b (a := nI c) ((qa_233 hi).trans (by rw [s3])) (ev_f (nI_ne0 (by omega) (by omega)) (ev_b (a := Value.ref 233) rfl (ev_b (a := nI 0) ((qa_233 hi').trans (by rw [s3'])) (ev_t rfl rfl)))))))))
          · obtain ⟨m, lm, Ob, hc, hB, hO, l16, -, l6, lo, hi2⟩ := all_ld hr
            have hbn : ∀ x, x < c → bm x < n := fun x hx => (s5 x hx).1
            have hbn' : ∀ x, x < c' → bm' x < n := fun x hx => (s5' x hx).1
            obtain ⟨q1, q2, q3, q4, a, it, f, q5, q6, q7⟩ := hB (bm 0) (hbn 0 (by omega))
            obtain ⟨r1, r2, r3, r4, a', it', f', r5, r6, r7⟩ := hB (bm' 0) (hbn' 0 (by omega))
            have g1 := pg_1 (q6 V I V I L R (fun _ => rfl) rfl)
            have g2 := pg_1 (r6 V I V I L R (fun _ => rfl) rfl)
            rw [← q1] at g1
            rw [← r1] at g2
            rw [(s5 0 (by omega)).2.2.2] at g1
            rw [(s5' 0 (by omega)).2.2.2] at g2
            have i41 : am_pA 0 (.ref (41 + 9 * i)) 0 (fx V I L R ++ tl) = some (nI (bm 0)) := (ia_41 (k := 0) hi (by omega)).trans (by rw [(s5 0 (by omega)).2.1])
            have i41' : am_pA 0 (.ref (41 + 9 * i')) 0 (fx V I L R ++ tl) = some (nI (bm' 0)) := (ia_41 (k := 0) hi' (by omega)).trans (by rw [(s5' 0 (by omega)).2.1])
            have ref34 : ∀ (W : Nat → Nat → Value) (J : Nat → Nat → Int32) (M : Nat → Nat → Int64), J 234 = I 234 → J 175 = I 175 → am_pA 0 (.ref 234) (nI (16 * i + 0)) (fx W J M R ++ tl) = some (nI (bm 0)) ∧ am_pA 0 (.ref 234) (nI (16 * i' + 0)) (fx W J M R ++ tl) = some (nI (bm' 0)) ∧ am_pA 0 (.ref 175) (nI (bm 0)) (fx W J M R ++ tl) = some (nI kd) ∧ am_pA 0 (.ref 175) (nI (bm' 0)) (fx W J M R ++ tl) = some (nI kd') := fun W J M h1 h2 => by
              have t1 := hbn 0 (by omega)
              have t2 := hbn' 0 (by omega)
              exact ⟨(qa_234 (by omega)).trans (by rw [h1, (s5 0 (by omega)).2.2.1]), (qa_234 (by omega)).trans (by rw [h1, (s5' 0 (by omega)).2.2.1]), (qa_175 (by omega)).trans (by rw [h2, (s5 0 (by omega)).2.2.2]), (qa_175 (by omega)).trans (by rw [h2, (s5' 0 (by omega)).2.2.2])⟩
            by_cases kk : nI kd = nI kd'
            · obtain ⟨W1, J1, M1, F1, e1, hF1, x1, -, -, f1⟩ := c_218 (L := L) (N := N) (by omega) hi c16 b1 lo hi2 hB hO hbn (rel_w hr) hc s2 l16 (fun x hx => (s5 x hx).2.1)
              have k1 := frK_k hi f1
              have h41' : J1 (41 + 9 * i') = I (41 + 9 * i') := f1.2.2.1 _ (by omega) (by omega) (by omega) (by omega) (by omega) (by omega)
              obtain ⟨W2, J2, M2, F2, e2, hF2, y1, -, -, f2⟩ := c_218 (V := W1) (I := J1) (L := M1) (R := R) (I0 := I) (N := N) (by omega) hi' c16' b1 lo hi2 hB hO hbn' (k1.1.2.2 (rel_w hr)) (csK_c k1.1 hc) ((f1.1 _ _ (by omega) (fun e => by omega) (fun e => by omega)).trans s2') (f1.2.1.trans l16) (fun x hx => by rw [h41']; exact (s5' x hx).2.1)
              have k2 := keepL_t k1 (frK_k hi' f2)
              have x2 : ∀ x, x < c → mbK i I m F1 Ob bm J2 M2 x := fun x hx => mbK_c ii f2 (x1 x hx)
              have j41 : ∀ x, x < c → J2 (41 + 9 * i) x = nI (bm x) := fun x hx => by
                rw [k2.1.2.1 _ (is_in hi)]
                exact (s5 x hx).2.1
              have j41' : ∀ x, x < c' → J2 (41 + 9 * i') x = nI (bm' x) := fun x hx => by
                rw [k2.1.2.1 _ (is_in hi')]
                exact (s5' x hx).2.1
              have w0 : W2 (40 + 9 * i) 0 = .int (nI c) := (f2.1 _ _ (by omega) (fun e => by omega) (fun e => by omega)).trans ((f1.1 _ _ (by omega) (fun e => by omega) (fun e => by omega)).trans s2)
              have w0' : W2 (40 + 9 * i') 0 = .int (nI c') := (f2.1 _ _ (by omega) (fun e => by omega) (fun e => by omega)).trans ((f1.1 _ _ (by omega) (fun e => by omega) (fun e => by omega)).trans s2')
              obtain ⟨q, hq⟩ : ∃ q, q = bsF (btr (fun x => ctN I 0 (Ob (bm x)) m) (fun x => szB I (bm x)) bm) (c - 1) 1 0 := ⟨_, rfl⟩
              obtain ⟨w, hw⟩ : ∃ w, w = wsF (btr (fun x => ctN I 0 (Ob (bm' x)) m) (fun x => szB I (bm' x)) bm') (c' - 1) 1 0 := ⟨_, rfl⟩
              have qc : q < c := by rw [hq]; exact bsF_lt _ _ _ (by omega) (by omega)
              have wc : w < c' := by rw [hw]; exact wsF_lt _ _ _ (by omega) (by omega)
              have e3 := c_233l (V := W2) (I := J2) (L := M2) (R := R) (tl := tl) (N := N) hi' c16' w0' (fun p q hp hq => c_221k hi' c16' b1 hB hc.2.2.1 hc.2.2.2.2.2 hbn' y1 j41' hp hq) (c' - 1) 1 0 N (by omega) (by omega) (by omega)
              have e4 := c_230l (V := W2) (I := J2) (L := M2) (R := R) (tl := tl) (N := N) hi c16 w0 (fun p q hp hq => c_221k hi c16 b1 hB hc.2.2.1 hc.2.2.2.2.2 hbn x2 j41 hp hq) (c - 1) 1 0 N (by omega) (by omega) (by omega)
              rw [← hw] at e3
              rw [← hq] at e4
              obtain ⟨Is, hIs⟩ : ∃ Is, Is = iup I (41 + 9 * i') (upd (I (41 + 9 * i')) w (nI (bm q))) := ⟨_, rfl⟩
              have iy := is_y hi'
              have k3 : keep V W2 Is (iup J2 (41 + 9 * i') (upd (J2 (41 + 9 * i')) w (nI (bm q)))) := by rw [hIs]; exact keep_u (is_in hi') k2.1
              have k4 := keep_t k3 (keep_0 (V := W2) (I := iup J2 (41 + 9 * i') (upd (J2 (41 + 9 * i')) w (nI (bm q)))) (x := 0))
              have hBs : ∀ b, b < n → bK R tl Is b := fun b hb => by rw [hIs]; exact bK_i iy (hB b hb)
              have hOs : oB Is lm n m Ob := by rw [hIs]; exact oB_i iy hO
              have hcs : csK (vup W2 174 0 (.int 0)) (iup J2 (41 + 9 * i') (upd (J2 (41 + 9 * i')) w (nI (bm q)))) Is m := by
                rw [hIs]
                exact csK_i0 iy (csK_c (keep_t k2.1 (keep_0 (V := W2) (I := J2) (x := 0))) hc)
              have oIs : ∀ y, y ≠ 41 + 9 * i' → Is y = I y := fun y hy => by rw [hIs]; exact iup_na hy
              obtain ⟨W3, J3, M3, e5, z1, z2, f3⟩ := r_505 (V := vup W2 174 0 (.int 0)) (I := iup J2 (41 + 9 * i') (upd (J2 (41 + 9 * i')) w (nI (bm q)))) (L := outL M2 1) (R := R) (tl := tl) (V0 := V) (I0 := Is) (N := N) hN hi c16 b1 lo hi2 (by rw [oIs 206 (by omega)]; exact l6) hBs hOs hbn (fun x hx => by rw [oIs 234 (by omega)]; exact (s5 x hx).2.2.1) (by rw [oIs 233 (by omega)]; exact s3) (k4.2.2 (rel_w hr)) k4 hcs
              have hbS := fun (c : Nat) (bm : Nat → Nat) (hbn : ∀ x, x < c → bm x < n) => mb_b (Ob := Ob) (c := c) (bm := bm) b1 hBs hcs.2.2.1 hcs.2.2.2.2.2 hbn
              have e6 := r_517l (V := W3) (I := J3) (L := M3) (R := R) (tl := tl) (N := N) c16 z2 (fun p q hp hq => r_508 c16 hp hq z1 hcs.2.2.1 hcs.2.2.2.2.2 (fun x hx => (hbS c bm hbn x hx).2)) (c - 1) 1 0 N (by omega) (by omega) (by omega)
              rw [show btr (fun x => ctN Is 0 (Ob (bm x)) m) (fun x => szB Is (bm x)) bm = btr (fun x => ctN I 0 (Ob (bm x)) m) (fun x => szB I (bm x)) bm by rw [hIs]; exact bt_i iy, ← hq] at e6
              have k5 := keep_t k4 (frT_k f3).1
              obtain ⟨W5, J5, M5, e7, v1, v2, f5⟩ := r_505 (V := W3) (I := J3) (L := M3) (R := R) (tl := tl) (V0 := V) (I0 := Is) (N := N) hN hi' c16' b1 lo hi2 (by rw [oIs 206 (by omega)]; exact l6) hBs hOs hbn' (fun x hx => by rw [oIs 234 (by omega)]; exact (s5' x hx).2.2.1) (by rw [oIs 233 (by omega)]; exact s3') (k5.2.2 (rel_w hr)) k5 (csK_c (frT_k f3).1 hcs)
              have k6 := keep_t k5 (frT_k f5).1
              have e8 := r_518l (V := W5) (I := J5) (L := M5) (R := R) (tl := tl) (N := N) (x := nI (bm q)) hi' c16' v2 (fun p q hp hq => r_508 c16' hp hq v1 hcs.2.2.1 hcs.2.2.2.2.2 (fun x hx => (hbS c' bm' hbn' x hx).2)) (c' - 1) 1 0 N (by omega) (by omega) (by omega)
              rw [show btr (fun x => ctN Is 0 (Ob (bm' x)) m) (fun x => szB Is (bm' x)) bm' = btr (fun x => ctN I 0 (Ob (bm' x)) m) (fun x => szB I (bm' x)) bm' by rw [hIs]; exact bt_i iy, ← hw] at e8
              have hrm := rel_mem (b := bm q) (x := w) hi' wc (hbn q qc) (show I 175 (bm q) = nI kd' by rw [← kk]; exact (s5 q qc).2.2.2) c16' s2' (fun k hk => ⟨bm' k, (s5' k hk).1, (s5' k hk).2.1, (s5' k hk).2.2.1, (s5' k hk).2.2.2⟩) hr
              rw [← hIs, show upd (I 234) (16 * i' + w) (nI (bm q)) = upd (Is 234) (16 * i' + w) (nI (bm q)) by rw [oIs 234 (by omega)]] at hrm
              have kF := keep_u (y := 234) (k := 16 * i' + w) (x := nI (bm q)) (by decide) k6
              have lF : ∀ y, y ∈ lRel → M5 y = L y := fun y hy => by
                rw [(frT_k f5).2 y hy, (frT_k f3).2 y hy, show outL M2 1 y = M2 y from lup_na (fun e => by subst e; revert hy; decide)]
                exact k2.2 y hy
              refine ⟨_, opBZ_g (v := 1) (W := W2) (J := iup J2 (41 + 9 * i') (upd (J2 (41 + 9 * i')) w (nI (bm q)))) (M := outL M2 1) (R1 := R) (t1 := tl) (W' := W5) (J' := iup J5 234 (upd (J5 234) (16 * i' + w) (nI (bm q)))) (M' := M5) (R2 := R) (t2 := tl) (.inr rfl) ?_ ?_ ?_ ?_, inv_mk (rel_kl ⟨kF, lF⟩ hrm) (room_up hm)⟩
              · have e : fm_232 N (.ref 0) (nI i) (nI i') (fx V I L R ++ tl) = some (.inl (some (.int 1), fx W2 (iup J2 (41 + 9 * i') (upd (J2 (41 + 9 * i')) w (nI (bm q)))) M2 R ++ tl)) := by
                  unfold fm_232 fg_232_0
                  refine ev_i rfl (ev_cR (c_201 hi) rfl (ev_i rfl (ev_cR (c_201 hi') rfl (ev_f nii (ev_b (iv_0 hi s2) (ev_f (nI_ne0 (by omega) (by omega)) (ev_b (iv_0 hi' s2') (ev_f (nI_ne0 (by omega) (by omega)) (ev_b (ir_1 hi) (ev_b i41 (ev_i rfl (ev_cR (c_63 b2 b1 (hbn 0 (by omega)) q5) rfl (ev_b g1 (ev_b (ir_1 hi') (ev_b i41' (ev_i rfl (ev_cR (c_63 b2 b1 (hbn' 0 (by omega)) r5) rfl (ev_b g2 (ev_t kk ?_)))))))))))))))))))
                  refine ev_b (a := Value.ref 1) rfl (ev_b (a := Value.ref 14) rfl (ev_i (io_1 hi) (ev_cV e1 (ev_b (a := Value.ref 1) rfl (ev_b (a := Value.ref 14) rfl (ev_i (io_1 hi') (ev_cV e2 (ev_b (ir_1 hi') (ev_i (io_1 hi') ?_)))))))))
                  unfold fm_233 fg_233_0
                  refine ev_cI e3 (ev_b (ir_1 hi) (ev_i (io_1 hi) ?_))
                  unfold fm_230 fg_230_0
                  exact ev_cI e4 (ev_b (a := nI (bm q)) ((ia_41 hi (by omega)).trans (by rw [j41 q qc])) (ev_b (ij_41 hi' (by omega)) rfl))
                unfold fm_231 fg_231_0
                refine ev_i rfl ?_
                rw [e]
                refine ev_f (c := (1 : Int32) = 0) (by decide) ?_
                unfold fg_231_16
                exact ev_b out_s rfl
              · show fm_518 N (.ref 174) (nI i) (nI i') (fx W2 (iup J2 (41 + 9 * i') (upd (J2 (41 + 9 * i')) w (nI (bm q)))) (outL M2 1) R ++ tl) = _
                have o34 : iup J2 (41 + 9 * i') (upd (J2 (41 + 9 * i')) w (nI (bm q))) 234 = I 234 := by rw [iup_na (by omega)]; exact k2.1.2.1 234 (by decide)
                have o33 : iup J2 (41 + 9 * i') (upd (J2 (41 + 9 * i')) w (nI (bm q))) 233 = I 233 := by rw [iup_na (by omega)]; exact k2.1.2.1 233 (by decide)
                have o75 : iup J2 (41 + 9 * i') (upd (J2 (41 + 9 * i')) w (nI (bm q))) 175 = I 175 := by rw [iup_na (by omega)]; exact k2.1.2.1 175 (by decide)
                obtain ⟨t1, t2, t3, t4⟩ := ref34 (vup W2 174 0 (.int 0)) (iup J2 (41 + 9 * i') (upd (J2 (41 + 9 * i')) w (nI (bm q)))) (outL M2 1) o34 o75
                unfold fm_518 fg_518_0
                refine ev_i rfl (ev_cI (t489v hi) (ev_f (by decide) (ev_i rfl (ev_cI (t489v hi') (ev_f (by decide) ?_)))))
                unfold fg_518_22
                rw [mul16 i, mul16 i']
                refine ev_b qp_174_0 (ev_b (a := 0) rfl (ev_f (by decide) (ev_f nii (ev_b (a := Value.ref 233) rfl (ev_b (a := nI c) ((qa_233 hi).trans (by rw [o33, s3])) (ev_f (nI_ne0 (by omega) (by omega)) (ev_b (a := Value.ref 233) rfl (ev_b (a := nI c') ((qa_233 hi').trans (by rw [o33, s3'])) (ev_f (nI_ne0 (by omega) (by omega)) ?_)))))))))
                refine ev_b (a := Value.ref 175) rfl (ev_b (a := Value.ref 234) rfl (ev_b t1 (ev_b t3 (ev_b (a := Value.ref 175) rfl (ev_b (a := Value.ref 234) rfl (ev_b t2 (ev_b t4 (ev_t kk (ev_i rfl (ev_cV e5 (ev_b (a := Value.ref 239) rfl (ev_i rfl ?_))))))))))))
                unfold fm_517 fg_517_0
                exact ev_cI e6 (ev_b (a := nI (bm q)) ((qa_239 (by omega)).trans (by rw [(z1 q qc).2.2.2])) (ev_i rfl (ev_cV e7 e8)))
              · rw [f5.1 174 0 (fun _ => by decide), f3.1 174 0 (fun _ => by decide)]
                exact vup_eq
              · rw [f5.2.2.1 268 (by decide) (by decide), f3.2.2.1 268 (by decide) (by decide)]
                exact outL_at
            · refine mv_no hr hm ?_ ?_
              · unfold fm_232 fg_232_0
                exact ev_i rfl (ev_cR (c_201 hi) rfl (ev_i rfl (ev_cR (c_201 hi') rfl (ev_f nii (ev_b (iv_0 hi s2) (ev_f (nI_ne0 (by omega) (by omega)) (ev_b (iv_0 hi' s2') (ev_f (nI_ne0 (by omega) (by omega)) (ev_b (ir_1 hi) (ev_b i41 (ev_i rfl (ev_cR (c_63 b2 b1 (hbn 0 (by omega)) q5) rfl (ev_b g1 (ev_b (ir_1 hi') (ev_b i41' (ev_i rfl (ev_cR (c_63 b2 b1 (hbn' 0 (by omega)) r5) rfl (ev_b g2 (ev_f kk rfl)))))))))))))))))))
              · obtain ⟨t1, t2, t3, t4⟩ := ref34 (vup V 174 0 (.int 0)) I (outL L 0) rfl rfl
                unfold fm_518 fg_518_0
                refine ev_i rfl (ev_cI (t489v hi) (ev_f (by decide) (ev_i rfl (ev_cI (t489v hi') (ev_f (by decide) ?_)))))
                unfold fg_518_22
                rw [mul16 i, mul16 i']
                refine ev_b qp_174_0 (ev_b (a := 0) rfl (ev_f (by decide) (ev_f nii (ev_b (a := Value.ref 233) rfl (ev_b (a := nI c) ((qa_233 hi).trans (by rw [s3])) (ev_f (nI_ne0 (by omega) (by omega)) (ev_b (a := Value.ref 233) rfl (ev_b (a := nI c') ((qa_233 hi').trans (by rw [s3'])) (ev_f (nI_ne0 (by omega) (by omega)) ?_)))))))))
                exact ev_b (a := Value.ref 175) rfl (ev_b (a := Value.ref 234) rfl (ev_b t1 (ev_b t3 (ev_b (a := Value.ref 175) rfl (ev_b (a := Value.ref 234) rfl (ev_b t2 (ev_b t4 (ev_f kk rfl))))))))
