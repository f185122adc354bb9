/-! ===== clean(b) ===== -/
theorem nt_fresh {V W : Nat → Nat → Value} {I J : Nat → Nat → Int32} {tl : am_H} {a it ln sz : Nat} {f : Nat → Int32} {s v : Nat → Nat} (hp : ntC V I tl a it ln sz f s v) (hW : ∀ j, W (269 + a) j = V (269 + a) j) (hJ : J (269 + it) = I (269 + it)) : ntC W J tl a it ln sz f s v := ⟨fun W' J' L' R' h1 h2 => hp.1 W' J' L' R' (fun j => (h1 j).trans (hW j)) (h2.trans hJ), hp.2⟩
theorem r_585e {V : Nat → Nat → Value} {I : Nat → Nat → Int32} {L : Nat → Nat → Int64} {R : Nat → Nat → Option Nat} {tl : am_H} {N n : Nat} {a : Int32} {c : Int32} (h0 : fm_586 (.ref 174) a (fx V I L R ++ tl) = some (.inl (some (.int c), fx V I L R ++ tl))) (hc : c = 1 ∨ c = 2) : fm_585 N (.ref 174) a (fx V I L R ++ tl) = some (.inl (some (.int 0), fx (vup V 174 0 (.int c)) I L R ++ tl)) := by
  unfold fm_585 fg_585_0
  refine ev_i rfl (ev_cI h0 (ev_b qp_174_0 (ev_b (a := c) rfl (ev_t (by rcases hc with rfl | rfl <;> decide) ?_))))
  unfold fg_585_31
  refine ev_b (a := c) rfl ?_
  unfold fg_585_35
  refine ev_b (a := fx (vup V 174 0 (.int c)) I L R ++ tl) (qp_174_0.trans (by rw [vup_2])) (ev_b (a := c) rfl (ev_f (by rcases hc with rfl | rfl <;> decide) rfl))
set_option maxRecDepth 100000 in
set_option maxHeartbeats 1600000 in
theorem u_57 {V : Nat → Nat → Value} {I : Nat → Nat → Int32} {L : Nat → Nat → Int64} {R : Nat → Nat → Option Nat} {tl : am_H} {n p j : Nat} (hr : rel V I L R tl n p) (hm : room tl n p j) {N : Nat} (hN : 5000 < N) (a1 : Int32) : ∃ h', opBI (fm_313 N (.ref 0) a1 (.ref 268) (fx V I L R ++ tl)) (fun h1 => fm_585 N (.ref 174) a1 h1) vfI h' ∧ invW (j + 1) h' := by
  obtain ⟨b1, b2, b3⟩ := hr.1
  rcases dich a1 (n := n) (by omega) with hn | ⟨b, hb, rfl⟩
  · refine ⟨_, opBI_err (c := 1) (b := 0) (by decide) (tl := tl ++ [am_dummy]) ?_ (r_585e (n := n) (r_586e b3 b1 hn) (.inl rfl)), inv_mk (rel_thr 1 (rel_dum hr)) (room_dum hm)⟩
    have e : fm_314 N (.ref 0) a1 (fx V I L R ++ tl) = some (.inr (2, (fx V I L R ++ (tl ++ [am_dummy])))) := by
      unfold fm_314 fg_314_0
      refine ev_i rfl ?_
      rw [c_315e b2 hn]
      rfl
    unfold fm_313 fg_313_0
    refine ev_i rfl ?_
    rw [e]
    rfl
  · obtain ⟨kd, ln, sz, a, it, f, q1, q2, q3, k3, s60, q4, q5, q6⟩ := nt_of hr hb
    by_cases hk : kd = 3
    · subst hk
      obtain ⟨s, v, ho, hc, hd⟩ := q6 rfl
      have l8 := p8l ho.2.1
      have h40 := ho.2.2.1
      by_cases c6 : n = 600
      · subst c6
        refine ⟨_, opBI_err (c := 3) (b := 0) (by decide) (tl := tl ++ [am_dummy]) ?_ ?_, inv_mk (rel_thr 3 (rel_dum hr)) (room_dum hm)⟩
        · have e : fm_314 N (.ref 0) (nI b) (fx V I L R ++ tl) = some (.inr (1, (fx V I L R ++ (tl ++ [am_dummy])))) := by
            unfold fm_314 fg_314_0
            refine ev_i rfl (ev_cR (c_315o b2 b1 hb q4 (q5 V I L R)) rfl (ev_i rfl ?_))
            rw [c_32n b2]
            rfl
          unfold fm_313 fg_313_0
          refine ev_i rfl ?_
          rw [e]
          rfl
        · show fm_585 N (.ref 174) (nI b) (fx V I L R ++ (tl ++ [am_dummy])) = _
          unfold fm_585 fg_585_0
          refine ev_i rfl (ev_cI (r_586k (kd := 3) b3 b1 hb q1 (by omega)) (ev_b qp_174_0 (ev_b (a := 0) rfl (ev_f (fun e => e rfl) (ev_b (a := nI 600) (by show am_vI (some (vup V 174 0 _ 174 1)) = _; rw [vup_v (by omega), b3]; rfl) (ev_f (fun e => e rfl) ?_))))))
          unfold fg_585_35
          exact ev_b (a := fx (vup V 174 0 (.int 3)) I L R ++ (tl ++ [am_dummy])) (qp_174_0.trans (by rw [vup_2])) (ev_b (a := 3) rfl (ev_f (by decide) rfl))
      · have hn : n < 600 := by omega
        obtain ⟨w, w1, w2⟩ := c_316o (V := V) (I := I) (L := L) (R := R) (tl := tl) (N := N) (T := .ref 167) hN ho hc (2 ^ ln) 0 N 0 (fun _ => false) (by omega) (by omega) (fun d _ => tb_0 d)
        obtain ⟨A, hA⟩ : ∃ A, A = acA s v sz (2 ^ ln) 0 (fun _ => false) := ⟨_, rfl⟩
        rw [← hA] at w1
        obtain ⟨V1, hV1⟩ : ∃ V1, V1 = vup (vup (vup (vup V 167 1 (.int 3)) 167 2 (.int (nI ln))) 167 3 (.int 0)) 167 4 (.int 2) := ⟨_, rfl⟩
        have g1 : ∀ a j, a ≠ 167 → V1 a j = V a j := fun a j h => by rw [hV1, vup_na h, vup_na h, vup_na h, vup_na h]
        have kV1 : keep V V1 I I := by
          rw [hV1]
          exact keep_t (keep_v (a := 167) (j := 1) (by decide) (by decide)) (keep_t (keep_v (a := 167) (j := 2) (by decide) (by decide)) (keep_t (keep_v (a := 167) (j := 3) (by decide) (by decide)) (keep_v (a := 167) (j := 4) (by decide) (by decide))))
        obtain ⟨g, y1, y2⟩ := c_316k (V := V1) (I := I) (L := L) (R := R) (tl := tl) (N := N) (w := w) (A := A) ho (nt_fresh hc (fun j => g1 _ _ (by omega)) rfl) (by rw [hV1]; exact vup_eq) w1 sz 0 N (I 168) (by omega) (by omega) (fun k hk => absurd hk (Nat.not_lt_zero _))
        obtain ⟨q, hq⟩ : ∃ q, q = clK A s v sz := ⟨_, rfl⟩
        rw [← hq] at y1 y2
        have cl : q.1 ≤ sz := by rw [hq]; exact clK_le A s v sz
        have ci : ∀ k, k < q.1 → q.2.1 k < q.2.2 k ∧ q.2.2 k < ln := by rw [hq]; exact clK_in ho.2.2.2 sz (Nat.le_refl _)
        rw [show (clK A s v 0).1 = 0 from rfl, iup_self, vup_id (V := V1) (a := 167) (j := 3) (w := .int (nI 0)) (by rw [hV1, vup_nj (by decide), vup_eq]; rfl)] at y2
        obtain ⟨V2, hV2⟩ : ∃ V2, V2 = vup V1 167 3 (.int (nI q.1)) := ⟨_, rfl⟩
        rw [← hV2] at y2
        have kV2 : keep V V2 I (iup I 168 g) := keep_t kV1 (by rw [hV2]; exact keep_t (keep_v (a := 167) (j := 3) (by decide) (by decide)) (keep_i (by decide)))
        have g2 : ∀ a j, a ≠ 167 → V2 a j = V a j := fun a j h => by rw [hV2, vup_na h, g1 a j h]
        have eb := bear_c (V := V2) (I := iup I 168 g) (L := L) (R := R) (tl := tl) (n := n) (kd := 3) (ln := ln) (sz := q.1) (by rw [hV2, hV1]; rfl) (by rw [hV2, hV1]; rfl) (by rw [hV2]; rfl) (by rw [hV2, hV1]; rfl) (by omega) (by show q.1 * 2 ≤ 120; omega) ((g2 0 1 (by decide)).trans b2) hn 7 (nI b) (-1) (-1) (-1) 0
        rw [iup_eq] at eb
        obtain ⟨F, hF⟩ : ∃ F, F = va_cpy g (fun _ => 0) 0 0 (q.1 * wdN 3) := ⟨_, rfl⟩
        rw [← hF] at eb
        obtain ⟨t2, ht2⟩ : ∃ t2, t2 = tl ++ brt tl.length 3 ln q.1 7 (nI b) (-1) (-1) (-1) 0 F := ⟨_, rfl⟩
        obtain ⟨R2, hR2⟩ : ∃ R2, R2 = rup R 1 (va_up (R 1) n (some (269 + tl.length))) := ⟨_, rfl⟩
        rw [← ht2, ← hR2] at eb
        obtain ⟨V3, hV3⟩ : ∃ V3, V3 = vup V2 0 1 (.int (nI (n + 1))) := ⟨_, rfl⟩
        rw [← hV3] at eb
        obtain ⟨J1, hJ1⟩ : ∃ J1, J1 = iup I 168 g := ⟨_, rfl⟩
        rw [← hJ1] at eb y2 kV2
        have j1 : ∀ y, y ≠ 168 → J1 y = I y := fun y h => by rw [hJ1, iup_na h]
        -- the reference
        obtain ⟨V4, hV4⟩ : ∃ V4, V4 = dkV (vup V3 174 0 (.int 0)) 3 ln sz := ⟨_, rfl⟩
        obtain ⟨J2, hJ2⟩ : ∃ J2, J2 = dkI J1 b sz := ⟨_, rfl⟩
        have f1 : fm_359 N (.ref 174) (nI b) (fx (vup V3 174 0 (.int 0)) J1 (outL L (nI n).toInt64) R2 ++ t2) = some (.inl (none, fx V4 J2 (outL L (nI n).toInt64) R2 ++ t2)) := by
          rw [hV4, hJ2]
          exact r_359 (by omega) (by omega) s60 (by rw [j1 175 (by decide)]; exact q1) (by rw [j1 176 (by decide)]; exact q2) (by rw [j1 177 (by decide)]; exact q3)
        have v14 : V4 174 14 = .int (nI sz) := by rw [hV4]; show vup _ 174 15 _ 174 14 = _; rw [vup_v (by omega), vup_eq]
        have v15 : V4 174 15 = .int (nI ln) := by rw [hV4]; exact vup_eq
        have j2d : ∀ k, k < sz → J2 186 k = nI (s k) ∧ J2 187 k = nI (v k) := fun k hk => by
          rw [hJ2]
          exact ⟨(ldr_at hk).trans (by rw [j1 184 (by decide)]; exact (hd k hk).1), (ldr_at hk).trans (by rw [j1 185 (by decide)]; exact (hd k hk).2)⟩
        obtain ⟨G0, z1, -, z3⟩ := r_585z (V := V4) (I := J2) (L := outL L (nI n).toInt64) (R := R2) (tl := t2) (N := N) (b := b) v14 h40 sz 0 N (J2 266) (by omega) (by omega)
        rw [iup_self] at z3
        obtain ⟨g4, G4, K', u1, u2⟩ := r_585o (V := V4) (I := J2) (L := outL L (nI n).toInt64) (R := R2) (tl := t2) (N := N) (b := b) hN ho v14 v15 j2d (2 ^ ln) 0 N (J2 194) G0 (fun _ => false) (by omega) (by omega) (fun y hy => z1 y hy (by omega))
        rw [← hA] at u1
        rw [show J2 194 = iup J2 266 G0 194 from (iup_na (by decide)).symm, iup_self] at u2
        obtain ⟨J3, hJ3⟩ : ∃ J3, J3 = iup (iup J2 266 G4) 194 g4 := ⟨_, rfl⟩
        rw [← hJ3] at u2
        have j3 : ∀ y, y ≠ 194 → y ≠ 266 → J3 y = J2 y := fun y h h' => by rw [hJ3, iup_na h, iup_na h']
        have j2 : ∀ y, y ≠ 186 → y ≠ 187 → J2 y = J1 y := fun y h h' => by rw [hJ2]; unfold dkI; rw [iup_na h', iup_na h]
        have j31 : ∀ y, y ≠ 186 → y ≠ 187 → y ≠ 194 → y ≠ 266 → y ≠ 168 → J3 y = I y := fun y h1 h2 h3 h4 h5 => by rw [j3 y h3 h4, j2 y h1 h2, j1 y h5]
        have f2 : fm_391 N (.ref 174) (nI b) (fx V4 J3 (outL L (nI n).toInt64) R2 ++ t2) = some (.inl (none, fx (dk2V V4 3 ln sz) (dk2I J3 b sz) (outL L (nI n).toInt64) R2 ++ t2)) := r_391 (by omega) (by omega) s60 (by decide) (by omega) (by rw [j31 175 (by decide) (by decide) (by decide) (by decide) (by decide)]; exact q1) (by rw [j31 176 (by decide) (by decide) (by decide) (by decide) (by decide)]; exact q2) (by rw [j31 177 (by decide) (by decide) (by decide) (by decide) (by decide)]; exact q3)
        obtain ⟨V5, hV5⟩ : ∃ V5, V5 = vup (vup (vup (dk2V V4 3 ln sz) 174 13 (.int (nI 3))) 174 15 (.int (nI ln))) 174 14 (.int 0) := ⟨_, rfl⟩
        obtain ⟨J4, hJ4⟩ : ∃ J4, J4 = dk2I J3 b sz := ⟨_, rfl⟩
        have f3 : fm_451 (.ref 174) (fx (dk2V V4 3 ln sz) J4 (outL L (nI n).toInt64) R2 ++ t2) = some (.inl (none, fx V5 J4 (outL L (nI n).toInt64) R2 ++ t2)) := by
          rw [hV5]
          exact r_451g (by show vup (vup (vup V4 174 20 _) 174 18 _) 174 19 _ 174 20 = _; rw [vup_v (by omega), vup_v (by omega), vup_eq]) vup_eq
        have d188 : ∀ k, k < sz → J4 188 k = nI (s k) ∧ J4 189 k = nI (v k) := fun k hk => by
          rw [hJ4]
          exact ⟨(ldr_at hk).trans (by rw [j31 184 (by decide) (by decide) (by decide) (by decide) (by decide)]; exact (hd k hk).1), (ldr_at hk).trans (by rw [j31 185 (by decide) (by decide) (by decide) (by decide) (by decide)]; exact (hd k hk).2)⟩
        have j4 : ∀ y, y ≠ 188 → y ≠ 189 → J4 y = J3 y := fun y h h' => by rw [hJ4]; unfold dk2I; rw [iup_na h', iup_na h]
        have d266 : ∀ y, y < sz → J4 266 y = nI (A y).toNat := fun y hy => by
          rw [j4 266 (by decide) (by decide), hJ3, iup_na (by decide), iup_eq]
          exact u1 y hy
        obtain ⟨V6, hV6⟩ : ∃ V6, V6 = vup V5 174 14 (.int (nI q.1)) := ⟨_, rfl⟩
        have k54 : keep V4 V5 J3 J4 := by
          rw [hV5, hJ4]
          exact keep_t keep_dk2 (keep_t (keep_v (a := 174) (j := 13) (by decide) (by decide)) (keep_t (keep_v (a := 174) (j := 15) (by decide) (by decide)) (keep_v (a := 174) (j := 14) (by decide) (by decide))))
        have k43 : keep V3 V4 J1 J3 := by
          rw [hV4, hJ3, hJ2]
          exact keep_t keep_0 (keep_t keep_dk (keep_t (keep_i (by decide)) (keep_i (by decide))))
        have k63 : keep V3 V6 J1 J4 := keep_t k43 (keep_t k54 (by rw [hV6]; exact keep_v (a := 174) (j := 14) (by decide) (by decide)))
        have v1 : V6 174 1 = .int (nI n) := by
          rw [k63.1 174 1 (by decide), hV3, vup_na (by decide), g2 174 1 (by decide)]
          exact b3
        have hO : ∀ x y, clG (clK A s v sz) x y → (if am_pOk 12 (.ref 174) (fx (vup V5 174 14 (.int (nI (clK A s v sz).1))) (iup (iup J4 186 x) 187 y) (outL L (nI n).toInt64) R2 ++ t2) then am_cI true (fm_356 N (.ref 174) 7 (nI b) ((-1)) ((-1)) ((-1)) 0 (fx (vup V5 174 14 (.int (nI (clK A s v sz).1))) (iup (iup J4 186 x) 187 y) (outL L (nI n).toInt64) R2 ++ t2)) (fun v5 h6 => some (.inl (some (.int v5), h6))) else none) = some (.inl (some (.int (nI n)), fx (vup V6 174 1 (.int (nI (n + 1)))) (bJ (iup (iup J4 186 x) 187 y) n (nI 3) q.1 (nI ln) 7 (nI b) (-1) (-1) (-1)) (lup (outL L (nI n).toInt64) 183 (vp_updL (outL L (nI n).toInt64 183) n 0)) R2 ++ t2)) := fun x y _ => by
          rw [← hq, ← hV6]
          exact ev_i rfl (ev_cI (bear_r (N := N) (kd := 3) (ln := ln) v1 (by rw [hV6, hV5]; rfl) (by rw [hV6]; rfl) ⟨nI ln, by rw [hV6, hV5]; rfl, rfl⟩ hn (by omega) (by omega) 7 (nI b) (-1) (-1) (-1) 0) rfl)
        obtain ⟨x, y, x1, x2⟩ := r_585k (V := V5) (I := J4) (L := outL L (nI n).toInt64) (R := R2) (tl := t2) (N := N) (b := b) (A := A) (o := fun _ x y => some (.inl (some (.int (nI n)), fx (vup V6 174 1 (.int (nI (n + 1)))) (bJ (iup (iup J4 186 x) 187 y) n (nI 3) q.1 (nI ln) 7 (nI b) (-1) (-1) (-1)) (lup (outL L (nI n).toInt64) 183 (vp_updL (outL L (nI n).toInt64 183) n 0)) R2 ++ t2))) (by rw [hV5]; rfl) h40 d188 d266 hO sz 0 N (J4 186) (J4 187) (by omega) (by omega) (fun k hk => absurd hk (Nat.not_lt_zero _))
        rw [show (clK A s v 0).1 = 0 from rfl, iup_self, iup_self, vup_id (V := V5) (a := 174) (j := 14) (w := .int (nI 0)) (by rw [hV5, vup_eq]; rfl)] at x2
        rw [← hq] at x1
        have kD : keep V3 V6 J1 (iup (iup J4 186 x) 187 y) := keep_t k63 (keep_t (keep_i (by decide)) (keep_i (by decide)))
        have d186 : (iup (iup J4 186 x) 187 y) 186 = x := (iup_na (by decide)).trans iup_eq
        have d187 : (iup (iup J4 186 x) 187 y) 187 = y := iup_eq
        have hi : itm 3 x y q.1 F := by
          unfold itm
          rw [if_neg (by decide)]
          intro k hk
          have w2' : q.1 * wdN 3 = q.1 * 2 := rfl
          rw [hF, cpy0 (by rw [w2']; omega), cpy0 (by rw [w2']; omega), (y1 k hk).1, (y1 k hk).2, (x1 k hk).1, (x1 k hk).2]
          exact ⟨rfl, rfl⟩
        have hs : sound 3 ln q.1 x y := ⟨by decide, by omega, fun h => absurd rfl h, fun h => absurd h (by decide), fun h => absurd h (by decide), fun h => absurd h (by decide), fun _ => ⟨ho.1, ho.2.1, by omega, fun k hk => ⟨q.2.1 k, q.2.2 k, (ci k hk).1, (ci k hk).2, (x1 k hk).1, (x1 k hk).2⟩⟩⟩
        have hR := bear_rel (x6 := 0) (f := F) (kd := 3) (ln := ln) (sz := q.1) (M' := outL L (nI n).toInt64) hr hn kV2 (by rw [← hV3]; exact kD) (fun y hy => lup_na (by
          have key : ∀ y, y ∈ lRel → y ≠ 268 := by decide
          exact key y hy)) (by rw [d186, d187]; exact hi) (by rw [d186, d187]; exact hs) (ped_7 hb b1) (gen_o (by decide) (by decide))
        rw [← ht2, ← hR2] at hR
        refine ⟨_, opBI_g (v := nI n) (W := V3) (J := J1) (M := outL L (nI n).toInt64) (R1 := R2) (t1 := t2) ?_ ?_ ?_ ?_, inv_mk hR (room_up (by rw [ht2]; exact room_b (by show q.1 * 2 ≤ 120; omega) hm))⟩
        · have e : fm_314 N (.ref 0) (nI b) (fx V I L R ++ tl) = some (.inl (some (.int (nI n)), fx V3 J1 L R2 ++ t2)) := by
            unfold fm_314 fg_314_0
            refine ev_i rfl (ev_cR (c_315o b2 b1 hb q4 (q5 V I L R)) rfl (ev_i rfl (ev_cV (c_32 b2 hn) (ev_b (a := Value.ref 131) rfl (ev_b (a := Value.ref 167) rfl (ev_i rfl (ev_cV (h1 := fx V2 J1 L R ++ tl) ?_ (ev_b (a := Value.ref 167) rfl (ev_i rfl (ev_cI eb rfl))))))))))
            unfold fm_316 fg_316_0
            refine w2.trans (ev_i rfl (ev_cV (d_34 3 (nI ln)) ?_))
            rw [show (if (3 : Int32) = 2 then (5 : Int32) else 2) = 2 from rfl, ← hV1]
            exact y2
          unfold fm_313 fg_313_0
          refine ev_i rfl ?_
          rw [e]
          exact ev_b out_s rfl
        · show fm_585 N (.ref 174) (nI b) (fx V3 J1 (outL L (nI n).toInt64) R2 ++ t2) = _
          have b3' : V3 174 1 = .int (nI n) := by rw [hV3, vup_na (by decide), g2 174 1 (by decide)]; exact b3
          have q1' : J1 175 b = nI 3 := by rw [j1 175 (by decide)]; exact q1
          unfold fm_585 fg_585_0
          refine ev_i rfl (ev_cI (r_586k (kd := 3) b3' b1 hb q1' (by omega)) (ev_b qp_174_0 (ev_b (a := 0) rfl (ev_f (fun e => e rfl) (ev_b (a := nI n) (by show am_vI (some (vup V3 174 0 _ 174 1)) = _; rw [vup_v (by omega), b3']; rfl) (ev_t (fun e => c6 ((nI_eq (b := 600) (by omega) (by decide)).mp e)) ?_))))))
          unfold fg_585_31
          refine ev_b (a := 0) rfl ?_
          unfold fg_585_35
          refine ev_b (a := fx (vup V3 174 0 (.int 0)) J1 (outL L (nI n).toInt64) R2 ++ t2) (qp_174_0.trans (by rw [if_pos rfl, vup_2])) (ev_b (a := 0) rfl (ev_t (by decide) (ev_i rfl (ev_cV f1 ?_))))
          refine z3.trans (u2.trans ?_)
          rw [fg_585_77]
          refine ev_b (rdI v15) ?_
          rw [sh_n ln (by have := ho.2.1; omega)]
          exact ev_t (nI_le (by omega) (by omega)) (ev_i rfl (ev_cV f2 (ev_i rfl (by rw [← hJ4]; exact ev_cV f3 x2))))
        · rw [vup_o (by decide), hV6, vup_o (by decide), hV5, vup_o (by decide), vup_o (by decide), vup_o (by decide)]
          unfold dk2V
          rw [vup_o (by decide), vup_o (by decide), vup_o (by decide), hV4]
          unfold dkV
          rw [vup_o (by decide), vup_o (by decide), vup_o (by decide), vup_eq]
        · rw [lup_na (by decide)]
          exact outL_at
    · refine ⟨_, opBI_err (c := 2) (b := 0) (by decide) (tl := tl ++ [am_dummy]) ?_ (r_585e (n := n) (by have e := r_586k (V := V) (I := I) (L := L) (R := R) (tl := tl ++ [am_dummy]) b3 b1 hb q1 k3; rw [if_neg hk] at e; exact e) (.inr rfl)), inv_mk (rel_thr 2 (rel_dum hr)) (room_dum hm)⟩
      have e : fm_314 N (.ref 0) (nI b) (fx V I L R ++ tl) = some (.inr (0, (fx V I L R ++ (tl ++ [am_dummy])))) := by
        unfold fm_314 fg_314_0
        refine ev_i rfl ?_
        rw [c_315k b2 b1 hb q4 (q5 V I L R) hk k3]
        rfl
      unfold fm_313 fg_313_0
      refine ev_i rfl ?_
      rw [e]
      rfl
