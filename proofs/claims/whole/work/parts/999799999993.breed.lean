/-! ===== breed(island, generations) ===== -/
theorem in_20 {a : Int32} (h1 : ¬ a < 1) (h2 : a ≤ 20) : pv_327 a.toInt64 1 20 = 1 := in_ok (w64le (a := 1) (Int32.not_lt.mp h1)) (w64le (b := 20) h2)
theorem in_20l {a : Int32} (h : a < 1) : pv_327 a.toInt64 1 20 = 0 := in_lo (w64lt (b := 1) h)
theorem in_20h {a : Int32} (h : ¬ a ≤ 20) : pv_327 a.toInt64 1 20 = 0 := in_hi (w64lt (a := 20) (Int32.not_le.mp h))
theorem c_32g {V : Nat → Nat → Value} {I : Nat → Nat → Int32} {L : Nat → Nat → Int64} {R : Nat → Nat → Option Nat} {tl : am_H} {n k : Nat} (hb : V 0 1 = .int (nI n)) (h : n + k ≤ 600) : fm_32 (.ref 0) (nI k) (fx V I L R ++ tl) = some (.inl (none, fx V I L R ++ tl)) := by
  unfold fm_32 fg_32_0
  refine ev_b (rdI hb) (ev_t ?_ rfl)
  rw [nI_add]
  exact nI_le (b := 600) h (by omega)
theorem c_32gn {V : Nat → Nat → Value} {I : Nat → Nat → Int32} {L : Nat → Nat → Int64} {R : Nat → Nat → Option Nat} {tl : am_H} {n k : Nat} (hb : V 0 1 = .int (nI n)) (h : 600 < n + k) (hk : n + k < 2 ^ 31) : fm_32 (.ref 0) (nI k) (fx V I L R ++ tl) = some (.inr (1, fx V I L R ++ (tl ++ [am_dummy]))) := by
  unfold fm_32 fg_32_0
  refine ev_b (rdI hb) (ev_f ?_ (by rw [List.append_assoc]))
  rw [nI_add]
  exact nI_ge (a := 600) h hk
theorem c_38 {c el e : Nat} {h : am_H} (hc : c ≤ 16) (hel : el ≤ 4) (ee : e = if c ≤ el then c else el) : fm_38 (nI el) (nI c) h = some (.inl (some (.int (nI e)), h)) := by
  unfold fm_38 fg_38_0
  rw [ee]
  by_cases z : c ≤ el
  · rw [if_pos z]
    by_cases q : c < el
    · exact ev_t (nI_lt q (by omega)) rfl
    · obtain rfl : c = el := by omega
      exact ev_f (nI_nlt (Nat.le_refl c) (by omega)) rfl
  · rw [if_neg z]
    exact ev_f (nI_nlt (by omega) (by omega)) rfl
set_option maxRecDepth 100000 in
set_option maxHeartbeats 4000000 in
theorem u_35 {V : Nat → Nat → Value} {I : Nat → Nat → Int32} {L : Nat → Nat → Int64} {R : Nat → Nat → Option Nat} {tl : am_H} {n p j : Nat} (hr : rel V I L R tl n p) (hm : room tl n p j) {N : Nat} (hN : 5000 < N) (a1 a2 : Int32) : ∃ h', opBI (fm_215 N (.ref 0) a1 a2 (.ref 268) (fx V I L R ++ tl)) (fun h1 => fm_502 N (.ref 174) a1 a2 h1) vfI h' ∧ invW (j + 1) h' := by
  obtain ⟨b1, b2, b3⟩ := hr.1
  have hwt := rel_w hr
  have err : ∀ (x y : Int32) (c : Nat), (c = 1 ∨ c = 2 ∨ c = 3) → fm_215 N (.ref 0) x y (.ref 268) (fx V I L R ++ tl) = some (.inl (some (.int (nI c)), fx V I L R ++ (tl ++ [am_dummy]))) → (∀ t : am_H, fm_502 N (.ref 174) x y (fx V I L R ++ t) = fg_502_93 N (.ref 174) x y (.ref 174) (nI c) (fx V I L R ++ t)) → ∃ h', opBI (fm_215 N (.ref 0) x y (.ref 268) (fx V I L R ++ tl)) (fun h1 => fm_502 N (.ref 174) x y h1) vfI h' ∧ invW (j + 1) h' := fun x y c hc e er => by
    refine ⟨_, opBI_err (c := nI c) (b := 0) (by rcases hc with rfl | rfl | rfl <;> decide) (tl := tl ++ [am_dummy]) e ?_, inv_mk (rel_thr (nI c) (rel_dum hr)) (room_dum hm)⟩
    refine (er _).trans ?_
    apply hd_502_93
    exact ev_b qp_174_0 (ev_b (a := nI c) rfl (ev_f (by rcases hc with rfl | rfl | rfl <;> decide) rfl))
  rcases dich a1 (n := 4) (by omega) with hn | ⟨i, hi, rfl⟩
  · refine err a1 a2 1 (.inl rfl) ?_ (fun t => ?_)
    · have e : fm_216 N (.ref 0) a1 a2 (fx V I L R ++ tl) = some (.inr (2, (fx V I L R ++ (tl ++ [am_dummy])))) := by
        apply hm_216
        apply hd_216_0
        refine ev_i rfl ?_
        rw [c_201n hn]
        rfl
      apply hm_215
      apply hd_215_0
      refine ev_i rfl ?_
      rw [e]
      rfl
    · apply hm_502
      apply hd_502_0
      refine ev_i rfl (ev_cI (t489n hn) (ev_t rfl ?_))
      apply hd_502_18
      refine ev_i rfl (ev_cI (t489n hn) (ev_t rfl ?_))
      apply hd_502_38
      exact ev_i rfl (ev_cI (t489n hn) (ev_f (fun u => u rfl) rfl))
  obtain ⟨c, kd0, c16, s2, s3, s4, s5⟩ := rIs_at hr.2.2.2.2.2.2.1 hi
  obtain ⟨lm, el, T, r3, ch, lo, hi2, el4, T1, T5, r100, ch2, l16, l27, u0, v0, u1, v1, u2, v2, u3, v3, u4, v4⟩ := hr.2.2.2.2.2.1
  obtain ⟨e, ee⟩ : ∃ e, e = if c ≤ el then c else el := ⟨_, rfl⟩
  have ecc : e ≤ c := by rw [ee]; split <;> omega
  -- the reference up to its tests
  have r38 : ∀ (W : Nat → Nat → Value) (J : Nat → Nat → Int32) (M : Nat → Nat → Int64) (S : Nat → Nat → Option Nat) (t : am_H), J 233 i = nI c → J 206 1 = nI el → fm_502 N (.ref 174) (nI i) a2 (fx W J M S ++ t) = fg_502_38 N (.ref 174) (nI i) a2 (nI c) (nI (c - e)) (fx W J M S ++ t) := fun W J M S t h1 h2 => by
    apply hm_502
    apply hd_502_0
    refine ev_i rfl (ev_cI (t489v hi) (ev_f (by decide) (ev_b (rdR rfl) (ev_b (a := nI c) ((qa_233 hi).trans (congrArg some h1)) ?_))))
    apply hd_502_18
    refine ev_i rfl (ev_cI (t489v hi) (ev_f (by decide) (ev_i rfl (ev_cI (r503 hi c16 el4 ee h2 h1) ?_))))
    rw [nI_sub ecc]
  by_cases z1 : a2 < 1 ∨ ¬ a2 ≤ 20
  · refine err (nI i) a2 2 (.inr (.inl rfl)) ?_ (fun t => ?_)
    · have e : fm_216 N (.ref 0) (nI i) a2 (fx V I L R ++ tl) = some (.inr (0, (fx V I L R ++ (tl ++ [am_dummy])))) := by
        rw [← List.append_assoc]
        apply hm_216
        apply hd_216_0
        refine ev_i rfl (ev_cR (c_201 hi) rfl ?_)
        by_cases z : a2 < 1
        · exact ev_t z (hd_216_17 rfl)
        · exact ev_f z (ev_f (z1.resolve_left z) (hd_216_17 rfl))
      apply hm_215
      apply hd_215_0
      refine ev_i rfl ?_
      rw [e]
      rfl
    · rw [r38 V I L R t s3 v1]
      apply hd_502_38
      refine ev_i rfl (ev_cI (t489v hi) (ev_t (by decide) (ev_cI (pe_327 _ _ _ _) ?_)))
      rw [show pv_327 a2.toInt64 1 20 = 0 from z1.elim in_20l in_20h]
      exact ev_f (fun u => u rfl) rfl
  obtain ⟨Q, hQ20, hQ1, rfl⟩ : ∃ Q, Q ≤ 20 ∧ 1 ≤ Q ∧ a2 = nI Q := by
    rcases dich a2 (n := 21) (by omega) with h | ⟨b, hb, rfl⟩
    · refine absurd ?_ z1
      rcases h with h | h
      · exact .inl (Int32.lt_of_lt_of_le h (by decide))
      · exact .inr (fun q => absurd (Int32.le_trans h q) (by decide))
    · refine ⟨b, by omega, ?_, rfl⟩
      rcases Nat.eq_zero_or_pos b with h | h
      · exact absurd (.inl (by rw [h]; decide)) z1
      · exact h
  have n1 : ¬ nI Q < 1 := fun q => z1 (.inl q)
  have n2 : nI Q ≤ 20 := Classical.not_not.mp (fun q => z1 (.inr q))
  by_cases c0 : c = 0
  · subst c0
    refine err (nI i) (nI Q) 3 (.inr (.inr rfl)) ?_ (fun t => ?_)
    · have e : fm_216 N (.ref 0) (nI i) (nI Q) (fx V I L R ++ tl) = some (.inr (1, (fx V I L R ++ (tl ++ [am_dummy])))) := by
        rw [← List.append_assoc]
        apply hm_216
        apply hd_216_0
        exact ev_i rfl (ev_cR (c_201 hi) rfl (ev_f n1 (ev_t n2 (ev_b (iv_0 hi s2) (ev_f (fun u => u rfl) rfl)))))
      apply hm_215
      apply hd_215_0
      refine ev_i rfl ?_
      rw [e]
      rfl
    · rw [r38 V I L R t s3 v1]
      apply hd_502_38
      refine ev_i rfl (ev_cI (t489v hi) (ev_t (by decide) (ev_cI (pe_327 _ _ _ _) ?_)))
      rw [in_20 n1 n2]
      exact ev_t (by decide) (ev_t rfl (hd_502_88 rfl))
  have g1 : am_pA 0 (.ref 38) 1 (fx V I L R ++ tl) = some (nI el) := (qa_38 (k := 1) (by omega)).trans (congrArg some u1)
  have c0' : ¬ nI c = 0 := nI_ne0 (by omega) (by omega)
  -- the class up to the room
  have c77 : ∀ o, am_cV true (fm_32 (.ref 0) (nI ((c - e) * Q)) (fx V I L R ++ tl)) (fun h23 => (fg_216_77 N N (.ref 0) (nI Q) (.ref (40 + 9 * i)) (nI e) 0 h23)) = o → fm_216 N (.ref 0) (nI i) (nI Q) (fx V I L R ++ tl) = o := fun o k_ => by
    apply hm_216
    apply hd_216_0
    refine ev_i rfl (ev_cR (c_201 hi) rfl (ev_f n1 (ev_t n2 (ev_b (iv_0 hi s2) (ev_t c0' (ev_b (rdR rfl) (ev_b g1 (ev_b (iv_0 hi s2) (ev_cI (c_38 c16 el4 ee) (ev_b (iv_0 hi s2) (ev_i rfl ?_)))))))))))
    rw [nI_sub ecc, ← nI_mul]
    exact k_
  have rQ : (nI Q * nI (c - e)) = nI ((c - e) * Q) := by rw [← nI_mul, Nat.mul_comm]
  have qb : (c - e) * Q ≤ 16 * 20 := Nat.mul_le_mul (by omega) hQ20
  by_cases z2 : 600 < n + (c - e) * Q
  · refine err (nI i) (nI Q) 3 (.inr (.inr rfl)) ?_ (fun t => ?_)
    · have e : fm_216 N (.ref 0) (nI i) (nI Q) (fx V I L R ++ tl) = some (.inr (1, (fx V I L R ++ (tl ++ [am_dummy])))) := by
        refine c77 _ ?_
        rw [c_32gn b2 z2 (by omega)]
        rfl
      apply hm_215
      apply hd_215_0
      refine ev_i rfl ?_
      rw [e]
      rfl
    · rw [r38 V I L R t s3 v1]
      apply hd_502_38
      refine ev_i rfl (ev_cI (t489v hi) (ev_t (by decide) (ev_cI (pe_327 _ _ _ _) ?_)))
      rw [in_20 n1 n2, rQ]
      refine ev_t (by decide) (ev_f c0' (ev_b (rdI b3) (ev_f ?_ (hd_502_88 rfl))))
      rw [nI_add]
      exact nI_ge (a := 600) z2 (by omega)
  -- it breeds
  obtain ⟨m, hcs⟩ := csK_r hr
  obtain ⟨y1, y2, y3⟩ := hr.2.2.2.2.2.2.2.2.2.2.1
  obtain ⟨bm, ebm⟩ : ∃ f, f = clN (I (41 + 9 * i)) := ⟨_, rfl⟩
  have hbm : ∀ x, x < c → bm x < n ∧ I (41 + 9 * i) x = nI (bm x) ∧ I 234 (16 * i + x) = nI (bm x) ∧ I 175 (bm x) = nI kd0 := fun x hx => by
    obtain ⟨b, d1, d2, d3, d4⟩ := s5 x hx
    rw [ebm, clN_at d2 (by omega)]
    exact ⟨d1, d2, d3, d4⟩
  obtain ⟨kd, ln0, P0, a0, it0, hg0, q1, -⟩ := bth_E hr (hbm 0 (by omega)).1
  have k3 := hg0.1
  have hkd : ∀ x, x < c → I 175 (bm x) = nI kd := fun x hx => (hbm x hx).2.2.2.trans ((hbm 0 (by omega)).2.2.2.symm.trans q1)
  have hb0 : ∀ x, x < c → bm x < n := fun x hx => (hbm x hx).1
  obtain ⟨W, J, M, R', tl', n', Vg, Ig, Lg, st', bm', K', e1, hA, hrg, hmg, hgg, nn, hb', hk', kp, gg, sp⟩ := c_gens (N := N) (p := p) (i := i) (c := c) (e := e) (T := T) (ch := ch) (r3 := r3) (kd := kd) (m := m) (lm := lm) (j := j) (Q := Q) hN hi c16 (by omega) (by omega) T1 (by omega) r100 ecc k3 lo hi2 hQ20 Q 0 N n V I L R tl (L 235 i) bm V I L (by omega) (by omega) (by rw [Nat.mul_comm]; omega) ⟨b2, s2, s4, fun x hx => (hbm x hx).2.1, hwt, hcs, l16, u2, u3, u4, y1, y2⟩ hr s2 hm hb0 hkd
  have hS := sp R' tl' (fun a b cc d ee f => a = n' ∧ b = Vg ∧ cc = Ig ∧ d = Lg ∧ ee = st' ∧ f = bm') grw_r ⟨rfl, rfl, rfl, rfl, rfl, rfl⟩
  obtain ⟨d1, d2, d3, d4, d5, d6, d7, d8, d9, d10, d11, d12⟩ := hA
  -- the last look of the class
  have n6 := hrg.1.1
  have m24 := d6.2.2.1
  have cok := d6.2.2.2.2.2
  have hB : ∀ b, b < n' → bK R' tl' Ig b := fun b hb => bK_r hrg hb
  obtain ⟨Ob, hO⟩ := oB_ex hB cok lm
  obtain ⟨W1, J1, M1, F, e2, hF, x1, x2, x3, f1⟩ := c_218 (L := M) (N := N) (by omega) hi c16 n6 lo hi2 hB hO hb' d5 d6 d2 d7 d4
  have k1 := frK_k hi f1
  have kp1 : kpC i V W1 I J1 L M1 := kpC_t kp (kpC_L k1)
  have j41 : ∀ x, x < c → J1 (41 + 9 * i) x = nI (bm' x) := fun x hx => by
    rw [f1.2.2.1 _ (by omega) (by omega) (by omega) (by omega) (by omega) (by omega)]
    exact d4 x hx
  obtain ⟨q, hq⟩ : ∃ q, q = bsF (btr (fun x => ctN Ig 0 (Ob (bm' x)) m) (fun x => szB Ig (bm' x)) bm') (c - 1) 1 0 := ⟨_, rfl⟩
  have qc : q < c := by rw [hq]; exact bsF_lt _ _ _ (by omega) (by omega)
  have w0 : W1 (40 + 9 * i) 0 = .int (nI c) := (f1.1 _ _ (by omega) (fun e => by omega) (fun e => by omega)).trans d2
  have e3 := c_230l (V := W1) (I := J1) (L := M1) (R := R') (tl := tl') (N := N) hi c16 w0 (fun p q hp hq => c_221k hi c16 n6 hB m24 cok hb' x1 j41 hp hq) (c - 1) 1 0 N (by omega) (by omega) (by omega)
  rw [← hq] at e3
  have hcls : fm_215 N (.ref 0) (nI i) (nI Q) (.ref 268) (fx V I L R ++ tl) = some (.inl (some (.int 0), fx W1 J1 (outL M1 (nI (bm' q)).toInt64) R' ++ tl')) := by
    have e : fm_216 N (.ref 0) (nI i) (nI Q) (fx V I L R ++ tl) = some (.inl (some (.int (nI (bm' q))), fx W1 J1 M1 R' ++ tl')) := by
      refine c77 _ (ev_cV (c_32g b2 (by omega)) ?_)
      refine Eq.trans e1 ?_
      apply hd_216_77
      refine ev_t (nI_le (Nat.le_refl Q) (by omega)) (ev_b (a := Value.ref 1) rfl (ev_b (a := Value.ref 14) rfl (ev_i (io_1 hi) (ev_cV e2 (ev_b (ir_1 hi) (ev_i (io_1 hi) ?_))))))
      unfold fm_230 fg_230_0
      exact ev_cI e3 (ev_b (a := nI (bm' q)) ((ia_41 hi (by omega)).trans (by rw [j41 q qc])) rfl)
    apply hm_215
    apply hd_215_0
    refine ev_i rfl ?_
    rw [e]
    exact ev_b out_s rfl
  -- the reference breeds
  have i233 : J1 233 = I 233 := kp1.2.1 233 (by decide) (by omega)
  have i206 : J1 206 = I 206 := kp1.2.1 206 (by decide) (by omega)
  obtain ⟨V3, eV3⟩ : ∃ X, X = vup (vup W1 174 0 (.int 0)) 174 96 (.long (L 235 i)) := ⟨_, rfl⟩
  have v3o : ∀ a j, ¬ (a = 174 ∧ (j = 0 ∨ j = 96)) → V3 a j = W1 a j := fun a j h => by rw [eV3, vup_o (fun u => h ⟨u.1, .inr u.2⟩), vup_o (fun u => h ⟨u.1, .inl u.2⟩)]
  have w3 : wt V3 := by rw [eV3]; exact wt_lg (wt_i (kp1.2.2.2 hwt) (by decide)) (by decide)
  obtain ⟨M3, eM3⟩ : ∃ X, X = outL M1 (nI (bm' q)).toInt64 := ⟨_, rfl⟩
  have m3o : ∀ y, y ≠ 268 → M3 y = M1 y := fun y h => by rw [eM3]; exact lup_na h
  have l3 : ∀ y, y ∈ lRel → M3 y = L y := fun y hy => (m3o y (by
    have key : ∀ y, y ∈ lRel → y ≠ 268 := by decide
    exact key y hy)).trans (kp1.2.2.1 y hy)
  have iv3 : rInv V3 M3 := by
    unfold rInv
    rw [v3o 174 80 (by omega), kp1.1 174 80 (by decide) (by omega) (by omega), l3 224 (by decide), l3 225 (by decide)]
    exact y3
  have b175 : ∀ y, 175 ≤ y → y ≤ 185 → y ≠ 183 → y ∈ iRel := fun y a b q => by
    rcases (by omega : y = 175 ∨ y = 176 ∨ y = 177 ∨ y = 178 ∨ y = 179 ∨ y = 180 ∨ y = 181 ∨ y = 182 ∨ y = 184 ∨ y = 185) with rfl | rfl | rfl | rfl | rfl | rfl | rfl | rfl | rfl | rfl <;> decide
  have cs : ∀ y, y = 15 ∨ (197 ≤ y ∧ y ≤ 204) → y ∈ iRel := fun y hy => by
    rcases (by omega : y = 15 ∨ y = 197 ∨ y = 198 ∨ y = 199 ∨ y = 200 ∨ y = 201 ∨ y = 202 ∨ y = 203 ∨ y = 204) with rfl | rfl | rfl | rfl | rfl | rfl | rfl | rfl | rfl <;> decide
  have hA3 : rI i n m (L 235 i) V3 J1 M3 I L := ⟨⟨(v3o 174 1 (by omega)).trans ((kp1.1 174 1 (by decide) (by omega) (by omega)).trans b3), fun y a b q => kp1.2.1 y (b175 y a b q) (by omega), l3 183 (by decide)⟩, by rw [eV3]; exact vup_eq, w3, iv3, fun y hy h => kp1.2.1 y hy h, csK_g hcs ((v3o 14 1 (by omega)).trans (kp1.1 14 1 (by decide) (by omega) (by omega))) ((v3o 174 31 (by omega)).trans (kp1.1 174 31 (by decide) (by omega) (by omega))) (fun y hy => kp1.2.1 y (cs y hy) (by omega)) (fun _ _ => rfl)⟩
  obtain ⟨W4, J4, M4, n4, Vg4, Ig4, Lg4, st4, bm4, K4, hΨ, e4, hA4, h34, fG, gg4, o4⟩ := r_gens (R := R') (tl := tl') (N := N) (p := p) (i := i) (c := c) (e := e) (el := el) (T := T) (ch := ch) (r3 := r3) (kd := kd) (m := m) (lm := lm) (Q := Q) hN hi c16 (by omega) (by omega) T1 (by omega) r100 el4 ee k3 lo hi2 hQ20 Q 0 N n V3 J1 M3 (L 235 i) bm V I L (by omega) (by omega) hA3 (fun x hx => (hbm x hx).2.2.1) s3 v0 v1 v2 v3 v4 hS
  obtain ⟨rfl, rfl, rfl, rfl, rfl, rfl⟩ := hΨ
  obtain ⟨g1', g2', g3', g4', g5', g6'⟩ := hA4
  -- its last look
  have iy := is_y hi
  obtain ⟨M5, eM5⟩ : ∃ X, X = lup M4 235 (vp_updL (M4 235) i st4) := ⟨_, rfl⟩
  have m5o : ∀ y, y ≠ 235 → M5 y = M4 y := fun y h => by rw [eM5]; exact lup_na h
  obtain ⟨I0, eI0⟩ : ∃ X, X = iup Ig4 (41 + 9 * i) (J4 (41 + 9 * i)) := ⟨_, rfl⟩
  have o0 : ∀ y, y ≠ 41 + 9 * i → I0 y = Ig4 y := fun y h => by rw [eI0]; exact iup_na h
  have hB0 : ∀ b, b < n4 → bK R' tl' I0 b := fun b hb => by rw [eI0]; exact bK_i iy (hB b hb)
  have hO0 : oB I0 lm n4 m Ob := by rw [eI0]; exact oB_i iy hO
  have hc0 : csK W4 J4 I0 m := by
    have := csK_i0 (G := J4 (41 + 9 * i)) (F := J4 (41 + 9 * i)) iy g6'
    rw [iup_self] at this
    rw [eI0]
    exact this
  have kp4 : keep W4 W4 I0 J4 := ⟨fun _ _ _ => rfl, fun y hy => by
    by_cases q : y = 41 + 9 * i
    · rw [q, eI0, iup_eq]
    · rw [o0 y q]; exact g5' y hy q, id⟩
  have ig206 : Ig4 206 = I 206 := gg4.2.1 206 (by omega) (by omega) (by omega)
  have ig233 : Ig4 233 = I 233 := gg4.2.1 233 (by omega) (by omega) (by omega)
  obtain ⟨W5, J5, M6, e5, z1', z2', f5⟩ := r_505 (V := W4) (I := J4) (L := M5) (R := R') (tl := tl') (V0 := W4) (I0 := I0) (N := N) hN hi c16 n6 lo hi2 (by rw [o0 206 (by omega), ig206]; exact v0) hB0 hO0 hb' (fun x hx => by rw [o0 234 (by omega)]; exact h34 x hx) (by rw [o0 233 (by omega), ig233]; exact s3) g3' kp4 hc0
  have e6 := r_517l (V := W5) (I := J5) (L := M6) (R := R') (tl := tl') (N := N) c16 z2' (fun p q hp hq => r_508 c16 hp hq z1' hc0.2.2.1 hc0.2.2.2.2.2 (fun x hx => (mb_b (Ob := Ob) n6 hB0 hc0.2.2.1 hc0.2.2.2.2.2 hb' x hx).2)) (c - 1) 1 0 N (by omega) (by omega) (by omega)
  rw [show btr (fun x => ctN I0 0 (Ob (bm4 x)) m) (fun x => szB I0 (bm4 x)) bm4 = btr (fun x => ctN Ig4 0 (Ob (bm4 x)) m) (fun x => szB Ig4 (bm4 x)) bm4 by rw [eI0]; exact bt_i iy, ← hq] at e6
  have fG5 : frGn W4 W5 J4 J5 M5 M6 := frGn_T f5
  have kT := frT_k f5
  -- the end
  have hrel : rel W5 J5 M6 R' tl' n4 p := by
    refine bred_rel (kd := kd) (bm := bm4) hi c16 hrg (fun a jj hj h1 h2 => ?_) (fun y hy h => (kT.1.2.1 y hy).trans (g5' y hy h)) ?_ ?_ ?_ ?_ (kT.1.2.2 g3') (fun k hk h => ?_) ?_ ((gg.1 _ _ (by omega) (by omega)).trans s2) (by rw [ig233]; exact s3) (fun x hx => ⟨?_, hb' x hx, hk' x hx, h34 x hx⟩)
    · rw [kT.1.1 a jj hj]
      by_cases z : a = 174
      · subst z
        by_cases zz : jj = 1
        · subst zz
          rw [g1'.1, hrg.1.2.2]
        · rw [fG.2.1 jj (.inl hj) zz (fun u => h2 ⟨rfl, u⟩)]
          have nj : jj ≠ 0 ∧ jj ≠ 96 := by
            have key : ∀ j, j ∈ vRel 174 → j ≠ 0 ∧ j ≠ 96 := by decide
            exact key jj hj
          rw [v3o 174 jj (by omega), kp1.1 174 jj hj (by omega) (by omega), gg.1 174 jj (by omega) (by omega)]
      · rw [fG.1 a jj z, v3o a jj (by omega)]
        by_cases zz : a = 0 ∧ jj = 1
        · rw [zz.1, zz.2, hrg.1.2.1, k1.1.1 0 1 (by decide), d1]
        · rw [kp1.1 a jj hj zz h1, gg.1 a jj zz (by omega)]
    · rw [fG5.2.2.2.2.1 77 (by omega), m5o 77 (by decide), fG.2.2.2.2.1 77 (by omega), l3 77 (by decide), gg.2.2 77 (by decide)]
    · rw [fG5.2.2.2.2.1 78 (by omega), m5o 78 (by decide), fG.2.2.2.2.1 78 (by omega), l3 78 (by decide), gg.2.2 78 (by decide)]
    · rw [f5.2.2.1 183 (by decide) (by decide), m5o 183 (by decide)]
      exact g1'.2.2
    · refine fG5.2.2.2.2.2.2 ?_
      unfold rInv
      rw [m5o 224 (by decide), m5o 225 (by decide)]
      exact g4'
    · rw [fG5.2.2.2.2.1 235 (by omega), eM5, lup_eq, show vp_updL (M4 235) i st4 k = M4 235 k from if_neg h, fG.2.2.2.2.1 235 (by omega), l3 235 (by decide), gg.2.2 235 (by decide)]
    · rw [fG5.1 _ _ (by omega), fG.1 _ _ (by omega), v3o _ _ (by omega), f1.1 _ _ (by omega) (fun e => by omega) (fun e => by omega), d3, fG5.2.2.2.2.1 235 (by omega), eM5, lup_eq, show vp_updL (M4 235) i st4 i = st4 from if_pos rfl]
    · rw [fG5.2.2.1 _ (by omega), fG.2.2.1 _ (by omega)]
      exact j41 x hx
  refine ⟨_, opBI_g (v := nI (bm4 q)) (W := W1) (J := J1) (M := outL M1 (nI (bm4 q)).toInt64) (R1 := R') (t1 := tl') (W' := W5) (J' := J5) (M' := M6) (R2 := R') (t2 := tl') hcls ?_ ?_ ?_, inv_mk hrel (room_up hmg)⟩
  · show fm_502 N (.ref 174) (nI i) (nI Q) (fx W1 J1 (outL M1 (nI (bm4 q)).toInt64) R' ++ tl') = _
    rw [r38 W1 J1 _ R' tl' (by rw [i233]; exact s3) (by rw [i206]; exact v1), ← eM3]
    apply hd_502_38
    refine ev_i rfl (ev_cI (t489v hi) (ev_t (by decide) (ev_cI (pe_327 _ _ _ _) ?_)))
    rw [in_20 n1 n2, rQ]
    refine ev_t (by decide) (ev_f c0' (ev_b (rdI ((kp1.1 174 1 (by decide) (by omega) (by omega)).trans b3)) (ev_t ?_ ?_)))
    · rw [nI_add]
      exact nI_le (b := 600) (by omega) (by omega)
    · apply hd_502_93
      refine ev_b qp_174_0 (ev_b (a := 0) rfl (ev_t (by decide) (ev_b (rdR rfl) (ev_b (a := L 235 i) ((qa_235 hi).trans (congrArg some (by rw [l3 235 (by decide)]))) (ev_b (a := fx V3 J1 M3 R' ++ tl') (by rw [eV3]; exact qp_174_96) ?_)))))
      refine Eq.trans e4 ?_
      apply hd_502_118
      refine ev_t (nI_le (Nat.le_refl Q) (by omega)) (ev_b (rdR rfl) (ev_b (rdL g2') (ev_b (a := fx W4 J4 M5 R' ++ tl') (by rw [eM5]; exact qs_235 hi) (ev_i rfl (ev_cV e5 (ev_b (a := Value.ref 239) rfl (ev_i rfl ?_)))))))
      unfold fm_517 fg_517_0
      exact ev_cI e6 (ev_b (a := nI (bm4 q)) ((qa_239 (by omega)).trans (by rw [(z1' q qc).2.2.2])) rfl)
  · rw [f5.1 174 0 (fun _ => by decide), fG.2.1 0 (.inr rfl) (by decide) (by decide), eV3, vup_o (by decide)]
    exact vup_eq
  · rw [f5.2.2.1 268 (by decide) (by decide), m5o 268 (by decide), fG.2.2.2.2.1 268 (by omega), eM3]
    exact outL_at
