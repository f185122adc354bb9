/-! ===== set, item ===== -/
theorem dic2 (a : Int32) {lo hi : Nat} (hh : hi < 2 ^ 31) (hl : lo ≤ hi) : (a < nI lo ∨ nI hi < a) ∨ ∃ x, lo ≤ x ∧ x ≤ hi ∧ a = nI x := by
  by_cases c : a < 0
  · exact .inl (.inl (Int32.lt_of_lt_of_le c (nI_pos' (by omega))))
  · obtain ⟨k, hk, rfl⟩ := nI_of c
    by_cases d : k < lo
    · exact .inl (.inl (nI_lt d (by omega)))
    · by_cases e : k ≤ hi
      · exact .inr ⟨k, by omega, e, rfl⟩
      · exact .inl (.inr (nI_lt (by omega) hk))
/-- the settings, one of them changed -/
def seI (I : Nat → Nat → Int32) (w x : Nat) : Nat → Nat → Int32 := iup (iup I 38 (upd (I 38) w (nI x))) 206 (upd (I 206) w (nI x))
def seV (V : Nat → Nat → Value) (I : Nat → Nat → Int32) (w x : Nat) : Nat → Nat → Value := vup (vup V 16 0 (.int (upd (I 38) w (nI x) 0))) 27 0 (.int (upd (I 38) w (nI x) 0))
set_option maxRecDepth 100000 in
set_option maxHeartbeats 4000000 in
theorem u_26w {V : Nat → Nat → Value} {I : Nat → Nat → Int32} {L : Nat → Nat → Int64} {R : Nat → Nat → Option Nat} {tl : am_H} {n p j : Nat} (hr : rel V I L R tl n p) (hm : room tl n p j) {X : am_X} {w lo hi : Nat} (hw : w < 5) (hl : lo ≤ hi) (hh : hi ≤ 2000) (h16 : am_pX X 16 (nI w) = some (nI lo)) (h17 : am_pX X 17 (nI w) = some (nI hi)) (h437 : ∀ (v : Int32) (h : am_H), fm_437 (nI w) v h = some (.inl (some (.int (pv_327 v.toInt64 (lN lo) (lN hi))), h))) (hse : ∀ x, lo ≤ x → x ≤ hi → rSe (seV V I w x) (seI I w x)) (he : I 38 w = I 206 w) (a2 : Int32) : ∃ h', opBI (fm_153 X (.ref 0) (nI w) a2 (.ref 268) (fx V I L R ++ tl)) (fun h1 => fm_436 (.ref 174) (nI w) a2 h1) vfI h' ∧ invW (j + 1) h' := by
  have l5 : am_pLen (.ref 38) (fx V I L R ++ tl) = some (nI 5) := rfl
  rcases dic2 a2 (lo := lo) (hi := hi) (by omega) hl with hn | ⟨x, x1, x2, rfl⟩
  · have e0 : pv_327 a2.toInt64 (lN lo) (lN hi) = 0 := by
      rcases hn with h | h
      · have := w64lt h
        rw [nI_l (by omega)] at this
        exact in_lo this
      · have := w64lt h
        rw [nI_l (by omega)] at this
        exact in_hi this
    refine ⟨_, opBI_err (c := 1) (b := 0) (by decide) (tl := tl ++ [am_dummy]) ?_ ?_, inv_mk (rel_thr 1 (rel_dum hr)) (room_dum hm)⟩
    · have e : fm_154 X (.ref 0) (nI w) a2 (fx V I L R ++ tl) = some (.inr (0, (fx V I L R ++ (tl ++ [am_dummy])))) := by
        rw [← List.append_assoc]
        unfold fm_154 fg_154_0
        refine ev_f (nI_pos (by omega)) (ev_b (a := Value.ref 38) rfl (ev_b l5 (ev_f (nI_ge hw (by omega)) (ev_b h16 ?_))))
        by_cases c : a2 < nI lo
        · exact ev_t c rfl
        · exact ev_f c (ev_b h17 (ev_f (Int32.not_le.mpr (hn.resolve_left c)) rfl))
      unfold fm_153 fg_153_0
      refine ev_i rfl ?_
      rw [e]
      rfl
    · show fm_436 (.ref 174) (nI w) a2 (fx V I L R ++ (tl ++ [am_dummy])) = _
      unfold fm_436 fg_436_0
      refine ev_cI (h437 _ _) ?_
      rw [e0]
      exact ev_t rfl (ev_b qp_174_0 (ev_b (a := 1) rfl (ev_f (by decide) rfl)))
  · obtain ⟨z1, z2, z3, z4, z5, z6, z7, z8, z9, z10, z11, z12, wv⟩ := hr
    have e1 : pv_327 (nI x).toInt64 (lN lo) (lN hi) = 1 := by
      rw [nI_l (by omega)]
      exact in_ok ((lN_le (by omega) (by omega)).mpr x1) ((lN_le (by omega) (by omega)).mpr x2)
    refine ⟨_, ⟨0, fx (seV V I w x) (iup I 38 (upd (I 38) w (nI x))) (outL L (I 206 w).toInt64) R ++ tl, I 206 w, (I 206 w).toInt64, ?_, rfl, ?_, rfl, rfl, fun _ => ⟨out_a (M := L), rfl⟩⟩, inv_mk (V := vup (seV V I w x) 174 0 (.int 0)) (I := seI I w x) (L := outL L (I 206 w).toInt64) ⟨z1, z2, z3, z4, z5, hse x x1 x2, z7, z8, z9, z10, z11, z12, wt_i (wt_i (wt_i wv (by decide)) (by decide)) (by decide)⟩ (room_up hm)⟩
    · have e : fm_154 X (.ref 0) (nI w) (nI x) (fx V I L R ++ tl) = some (.inl (some (.int (I 206 w)), fx (seV V I w x) (iup I 38 (upd (I 38) w (nI x))) L R ++ tl)) := by
        unfold fm_154 fg_154_0
        refine ev_f (nI_pos (by omega)) (ev_b (a := Value.ref 38) rfl (ev_b l5 (ev_f (nI_ge hw (by omega)) (ev_b h16 (ev_f (nI_nlt x1 (by omega)) (ev_b h17 (ev_t (nI_le x2 (by omega)) ?_)))))))
        refine ev_b (a := Value.ref 38) rfl (ev_b (a := I 206 w) ((qa_38 hw).trans (by rw [he])) (ev_b (a := Value.ref 38) rfl (ev_b (qs_38 hw) (ev_b (a := Value.ref 14) rfl (ev_b (a := Value.ref 38) rfl (ev_b (qa_38 (k := 0) (by omega)) (ev_i rfl (ev_cV (h1 := fx (seV V I w x) (iup I 38 (upd (I 38) w (nI x))) L R ++ tl) ?_ rfl))))))))
        unfold fm_155 fg_155_0
        exact ev_b (a := Value.ref 16) rfl (ev_b qp_16_0 (ev_b (a := Value.ref 27) rfl (ev_b qp_27_0 rfl)))
      unfold fm_153 fg_153_0
      refine ev_i rfl ?_
      rw [e]
      exact ev_b out_s rfl
    · show fm_436 (.ref 174) (nI w) (nI x) (fx (seV V I w x) (iup I 38 (upd (I 38) w (nI x))) (outL L (I 206 w).toInt64) R ++ tl) = _
      unfold fm_436 fg_436_0
      refine ev_cI (h437 _ _) ?_
      rw [e1]
      exact ev_f (by decide) (ev_b qp_174_0 (ev_b (a := 0) rfl (ev_t (by decide) (ev_b (a := Value.ref 206) rfl (ev_b (qa_206 hw) (ev_b (a := Value.ref 206) rfl (ev_b (qs_206 hw) rfl)))))))
set_option maxRecDepth 100000 in
set_option maxHeartbeats 4000000 in
theorem u_26 {V : Nat → Nat → Value} {I : Nat → Nat → Int32} {L : Nat → Nat → Int64} {R : Nat → Nat → Option Nat} {tl : am_H} {n p j : Nat} (hr : rel V I L R tl n p) (hm : room tl n p j) (Ln : Nat) (xs : Nat → Int32) (a1 a2 : Int32) : ∃ h', opBI (fm_153 (am_X0 Ln xs) (.ref 0) a1 a2 (.ref 268) (fx V I L R ++ tl)) (fun h1 => fm_436 (.ref 174) a1 a2 h1) vfI h' ∧ invW (j + 1) h' := by
  obtain ⟨a, b, c, d, e, k1, k2, k3, k4, k5, k6, k7, v1, v2, i0, r0, i1, r1, i2, r2, i3, r3, i4, r4⟩ := hr.2.2.2.2.2.1
  rcases t5 a1 with (rfl | rfl | rfl | rfl | rfl) | hn
  · exact u_26w hr hm (w := 0) (lo := 10) (hi := 2000) (by omega) (by omega) (by omega) rfl rfl (fun _ _ => t437_0) (fun x x1 x2 => ⟨x, b, c, d, e, x1, x2, k3, k4, k5, k6, k7, rfl, rfl, rfl, rfl, i1, r1, i2, r2, i3, r3, i4, r4⟩) (i0.trans r0.symm) a2
  · exact u_26w hr hm (w := 1) (lo := 0) (hi := 4) (by omega) (by omega) (by omega) rfl rfl (fun _ _ => t437_1) (fun x x1 x2 => ⟨a, x, c, d, e, k1, k2, x2, k4, k5, k6, k7, congrArg Value.int i0, congrArg Value.int i0, i0, r0, rfl, rfl, i2, r2, i3, r3, i4, r4⟩) (i1.trans r1.symm) a2
  · exact u_26w hr hm (w := 2) (lo := 1) (hi := 5) (by omega) (by omega) (by omega) rfl rfl (fun _ _ => t437_2) (fun x x1 x2 => ⟨a, b, x, d, e, k1, k2, k3, x1, x2, k6, k7, congrArg Value.int i0, congrArg Value.int i0, i0, r0, i1, r1, rfl, rfl, i3, r3, i4, r4⟩) (i2.trans r2.symm) a2
  · exact u_26w hr hm (w := 3) (lo := 0) (hi := 100) (by omega) (by omega) (by omega) rfl rfl (fun _ _ => t437_3) (fun x x1 x2 => ⟨a, b, c, x, e, k1, k2, k3, k4, k5, x2, k7, congrArg Value.int i0, congrArg Value.int i0, i0, r0, i1, r1, i2, r2, rfl, rfl, i4, r4⟩) (i3.trans r3.symm) a2
  · exact u_26w hr hm (w := 4) (lo := 0) (hi := 2) (by omega) (by omega) (by omega) rfl rfl (fun _ _ => t437_4) (fun x x1 x2 => ⟨a, b, c, d, x, k1, k2, k3, k4, k5, k6, x2, congrArg Value.int i0, congrArg Value.int i0, i0, r0, i1, r1, i2, r2, i3, r3, rfl, rfl⟩) (i4.trans r4.symm) a2
  · refine ⟨_, opBI_err (c := 1) (b := 0) (by decide) (tl := tl ++ [am_dummy]) ?_ ?_, inv_mk (rel_thr 1 (rel_dum hr)) (room_dum hm)⟩
    · have e : fm_154 (am_X0 Ln xs) (.ref 0) a1 a2 (fx V I L R ++ tl) = some (.inr (0, (fx V I L R ++ (tl ++ [am_dummy])))) := by
        rw [← List.append_assoc]
        unfold fm_154 fg_154_0
        by_cases c : a1 < 0
        · exact ev_t c rfl
        · exact ev_f c (ev_b (a := Value.ref 38) rfl (ev_b (a := 5) rfl (ev_t (hn.resolve_left c) rfl)))
      unfold fm_153 fg_153_0
      refine ev_i rfl ?_
      rw [e]
      rfl
    · have h437 : ∀ {h : am_H}, fm_437 a1 a2 h = some (.inl (some (.int 0), h)) := by
        intro h
        have ne : ∀ k : Nat, k < 5 → ¬ a1 = nI k := by
          intro k hk e
          subst e
          rcases hn with h9 | h9
          · exact nI_pos (by omega) h9
          · exact absurd ((nI_leI (a := 5) (by decide) (by omega)).mp h9) (by omega)
        unfold fm_437 fg_437_0
        exact ev_t (ne 0 (by omega)) (ev_t (ne 1 (by omega)) (ev_t (ne 2 (by omega)) (ev_t (ne 3 (by omega)) (ev_t (ne 4 (by omega)) rfl))))
      show fm_436 (.ref 174) a1 a2 (fx V I L R ++ (tl ++ [am_dummy])) = _
      unfold fm_436 fg_436_0
      exact ev_cI h437 (ev_t rfl (ev_b qp_174_0 (ev_b (a := 1) rfl (ev_f (by decide) rfl))))
/-! item(b, i, what) -/
/-- a program anywhere in the heap -/
def pg (h : am_H) (a it kd ln sz m : Nat) (f : Nat → Int32) : Prop := ∃ wy f1 f2 hw nb sd, h[a]? = some (.inr (3, [.ref it, .int (nI kd), .int (nI ln), .int (nI sz), .int (nI (wdN kd)), .int wy, .int f1, .int f2, .int hw, .int nb, .long sd])) ∧ h[it]? = some (.inl (0, m, .inl f))
theorem wd_le (kd : Nat) : 2 ≤ wdN kd ∧ wdN kd ≤ 5 := by
  unfold wdN
  split <;> omega
theorem wd_lt {kd sz k w : Nat} (hk : k < sz) (hw : w < wdN kd) : k * wdN kd + w < sz * wdN kd := by
  have h1 : (k + 1) * wdN kd ≤ sz * wdN kd := Nat.mul_le_mul_right _ hk
  rw [Nat.add_mul] at h1
  omega
theorem c_54 {h : am_H} {a it kd ln sz m k w : Nat} {f : Nat → Int32} (hp : pg h a it kd ln sz m f) (hm : sz * wdN kd ≤ m) (hm2 : m ≤ 1000) (hs : sz ≤ 60) (hk : k < sz) (hw : w < wdN kd) : fm_54 (.ref a) (nI k) (nI w) h = some (.inl (some (.int (f (k * wdN kd + w))), h)) := by
  obtain ⟨wy, f1, f2, hw', nb, sd, p1, p2⟩ := hp
  have wd5 := wd_le kd
  have lt := wd_lt hk hw
  unfold fm_54 fg_54_0
  refine ev_f (nI_pos (by omega)) (ev_b (ev_gI p1 rfl rfl) (ev_f (nI_ge hk (by omega)) (ev_f (nI_pos (by omega)) (ev_b (ev_gI p1 rfl rfl) (ev_f (nI_ge hw (by omega)) (ev_b (ev_gR p1 rfl rfl rfl) (ev_b (ev_gI p1 rfl rfl) ?_)))))))
  rw [show nI k * nI (wdN kd) + nI w = nI (k * wdN kd + w) by rw [← nI_mul, nI_add]]
  exact ev_b ((ev_a p2 (am_inb_n (show k * wdN kd + w < m by omega) (by omega))).trans (by rw [nI_clamp (by omega)])) rfl
theorem c_54z {h : am_H} {a it kd ln sz m k w : Nat} {f : Nat → Int32} (hp : pg h a it kd ln sz m f) (hs : sz ≤ 60) (hk : k < sz) (hw : wdN kd ≤ w) (hw2 : w ≤ 100) : fm_54 (.ref a) (nI k) (nI w) h = some (.inl (some (.int 0), h)) := by
  obtain ⟨wy, f1, f2, hw', nb, sd, p1, p2⟩ := hp
  unfold fm_54 fg_54_0
  exact ev_f (nI_pos (by omega)) (ev_b (ev_gI p1 rfl rfl) (ev_f (nI_ge hk (by omega)) (ev_f (nI_pos (by omega)) (ev_b (ev_gI p1 rfl rfl) (ev_t (nI_le hw (by omega)) rfl)))))
/-- what item() says -/
def itV (kd : Nat) (s v : Nat → Int32) (k w : Nat) : Int32 := if w = 0 then s k else if kd = 2 then pv_367 (v k) (nI (w - 1)) else if w = 1 then v k else 0
theorem bOk_pg {V : Nat → Nat → Value} {I : Nat → Nat → Int32} {L : Nat → Nat → Int64} {R : Nat → Nat → Option Nat} {tl : am_H} {b : Nat} (h : bOk I L R tl b) : ∃ (kd ln sz a it : Nat) (f : Nat → Int32), I 175 b = nI kd ∧ I 176 b = nI sz ∧ I 177 b = nI ln ∧ R 1 b = some (269 + a) ∧ pg (fx V I L R ++ tl) (269 + a) (269 + it) kd ln sz (sz * wdN kd) f ∧ itm kd (fun k => I 184 (60 * b + k)) (fun k => I 185 (60 * b + k)) sz f ∧ sound kd ln sz (fun k => I 184 (60 * b + k)) (fun k => I 185 (60 * b + k)) := by
  obtain ⟨kd, ln, sz, a, it, f, q1, q2, q3, q4, q5, q6, q7, q8, q9⟩ := h
  exact ⟨kd, ln, sz, a, it, f, q1, q2, q3, q4, ⟨_, _, _, _, _, _, tl_at.trans q5, tl_at.trans q6⟩, q7, q8⟩
theorem itm_get {h : am_H} {a it kd ln sz k w : Nat} {f s v : Nat → Int32} (hp : pg h a it kd ln sz (sz * wdN kd) f) (hi : itm kd s v sz f) (hs : sz ≤ 60) (hk : k < sz) (hw : w < 5) : fm_54 (.ref a) (nI k) (nI w) h = some (.inl (some (.int (itV kd s v k w)), h)) := by
  have wd5 := wd_le kd
  have hz : sz * wdN kd ≤ 1000 := Nat.le_trans (Nat.mul_le_mul hs wd5.2) (by omega)
  by_cases c : w < wdN kd
  · have e : f (k * wdN kd + w) = itV kd s v k w := by
      unfold itm at hi
      unfold itV
      unfold wdN at c ⊢
      by_cases d : kd = 2
      · rw [if_pos d] at hi c ⊢
        obtain ⟨h1, h2⟩ := hi k hk
        by_cases g : w = 0
        · rw [if_pos g, g]; exact h1
        · rw [if_neg g, if_pos d]
          have := h2 (w - 1) (by omega)
          rw [show 1 + (w - 1) = w by omega] at this
          exact this
      · rw [if_neg d] at hi c ⊢
        obtain ⟨h1, h2⟩ := hi k hk
        by_cases g : w = 0
        · rw [if_pos g, g]; exact h1
        · rw [if_neg g, if_neg d, if_pos (by omega), show w = 1 by omega]; exact h2
    rw [← e]
    exact c_54 hp (Nat.le_refl _) hz hs hk c
  · have e : itV kd s v k w = 0 := by
      unfold wdN at c
      unfold itV
      by_cases d : kd = 2
      · rw [if_pos d] at c; omega
      · rw [if_neg d] at c
        rw [if_neg (by omega), if_neg d, if_neg (by omega)]
    rw [e]
    exact c_54z hp hs hk (by omega) (by omega)
theorem in_5 {k : Nat} (h : k < 5) : pv_327 (nI k).toInt64 0 4 = 1 := by
  rw [nI_l (by omega)]
  exact in_ok ((lN_le (a := 0) (by omega) (by omega)).mpr (by omega)) ((lN_le (b := 4) (by omega) (by omega)).mpr (by omega))
theorem in_5n {a : Int32} (h : a < 0 ∨ nI 5 ≤ a) : pv_327 a.toInt64 0 4 = 0 := by
  rcases h with h | h
  · exact in_lo (w64lt h)
  · exact in_hi (Int64.lt_of_lt_of_le (show (4 : Int64) < Int32.toInt64 5 by decide) (w64le h))
set_option maxRecDepth 100000 in
set_option maxHeartbeats 4000000 in
theorem r_373 {V : Nat → Nat → Value} {I : Nat → Nat → Int32} {L : Nat → Nat → Int64} {R : Nat → Nat → Option Nat} {tl : am_H} {n b sz : Nat} {a2 a3 : Int32} (hb : V 174 1 = .int (nI n)) (hn : n ≤ 600) (h : b < n) (h2 : I 176 b = nI sz) (hs : sz ≤ 60) {o : Option am_O} (h60 : ∀ (s0 : Int32), s0 = (if pv_327 a2.toInt64 0 ((nI sz).toInt64 - 1) = 0 then 1 else if pv_327 a3.toInt64 0 4 = 0 then 2 else 0) → fg_373_60 (.ref 174) (nI b) a2 a3 (.ref 174) s0 (fx V I L R ++ tl) = o) : fm_373 (.ref 174) (nI b) a2 a3 (fx V I L R ++ tl) = o := by
  unfold fm_373 fg_373_0
  refine ev_i rfl (ev_cI (r_358 hb hn h) (ev_f (by decide) (ev_b (a := Value.ref 176) rfl (ev_i rfl (ev_cI (r_358 hb hn h) (ev_f (by decide) ?_))))))
  unfold fg_373_29
  refine ev_b (a := nI sz) ((qa_176 (by omega)).trans (by rw [h2])) (ev_cI (pe_327 _ _ _ _) ?_)
  by_cases c1 : pv_327 a2.toInt64 0 ((nI sz).toInt64 - 1) = 0
  · refine ev_f (fun e => e c1) ?_
    unfold fg_373_39
    exact h60 1 (by rw [if_pos c1])
  · refine ev_t c1 (ev_cI (pe_327 _ _ _ _) ?_)
    by_cases c2 : pv_327 a3.toInt64 0 4 = 0
    · exact ev_f (fun e => e c2) (h60 2 (by rw [if_neg c1, if_pos c2]))
    · exact ev_t c2 (h60 0 (by rw [if_neg c1, if_neg c2]))
set_option maxRecDepth 100000 in
set_option maxHeartbeats 4000000 in
theorem u_7 {V : Nat → Nat → Value} {I : Nat → Nat → Int32} {L : Nat → Nat → Int64} {R : Nat → Nat → Option Nat} {tl : am_H} {n p j : Nat} (hr : rel V I L R tl n p) (hm : room tl n p j) (a1 a2 a3 : Int32) : ∃ h', opBI (fm_82 (.ref 0) a1 a2 a3 (.ref 268) (fx V I L R ++ tl)) (fun h1 => fm_373 (.ref 174) a1 a2 a3 h1) vfI h' ∧ invW (j + 1) h' := by
  obtain ⟨b1, b2, b3⟩ := hr.1
  rcases dich a1 (n := n) (by omega) with hn | ⟨b, hb, rfl⟩
  · refine ⟨_, opBI_err (c := 1) (b := 0) (by decide) (tl := tl ++ [am_dummy]) ?_ ?_, inv_mk (rel_thr 1 (rel_dum hr)) (room_dum hm)⟩
    · have e : fm_83 (.ref 0) a1 a2 a3 (fx V I L R ++ tl) = some (.inr (2, (fx V I L R ++ (tl ++ [am_dummy])))) := by
        unfold fm_83 fg_83_0
        refine ev_i rfl ?_
        rw [c_63n b2 hn]
        rfl
      unfold fm_82 fg_82_0
      refine ev_i rfl ?_
      rw [e]
      rfl
    · show fm_373 (.ref 174) a1 a2 a3 (fx V I L R ++ (tl ++ [am_dummy])) = _
      unfold fm_373 fg_373_0
      refine ev_i rfl (ev_cI (r_358n b3 b1 hn) (ev_t rfl ?_))
      unfold fg_373_39
      exact ev_b qp_174_0 (ev_b (a := 1) rfl (ev_f (by decide) rfl))
  · obtain ⟨kd, ln, sz, a, it, f, q1, q2, q3, q4, q5, q6, q7⟩ := bOk_pg (V := V) (I := I) (L := L) (R := R) (tl := tl) (hr.2.1 b hb)
    have hs : sz ≤ 60 := q7.2.1
    obtain ⟨wy, f1, f2, hw', nb, sd, p1, p2⟩ := q5
    have q5 : pg (fx V I L R ++ tl) (269 + a) (269 + it) kd ln sz (sz * wdN kd) f := ⟨wy, f1, f2, hw', nb, sd, p1, p2⟩
    rcases dich a2 (n := sz) (by omega) with hn | ⟨k, hk, rfl⟩
    · refine ⟨_, opBI_err (c := 1) (b := 0) (by decide) (tl := tl ++ [am_dummy]) ?_ ?_, inv_mk (rel_thr 1 (rel_dum hr)) (room_dum hm)⟩
      · have e : fm_83 (.ref 0) (nI b) a2 a3 (fx V I L R ++ tl) = some (.inr (2, (fx V I L R ++ (tl ++ [am_dummy])))) := by
          rw [← List.append_assoc]
          unfold fm_83 fg_83_0
          refine ev_i rfl (ev_cR (c_63 b2 b1 hb q4) rfl ?_)
          by_cases c : a2 < 0
          · exact ev_t c rfl
          · exact ev_f c (ev_b (ev_gI p1 rfl rfl) (ev_f (Int32.not_lt.mpr (hn.resolve_left c)) rfl))
        unfold fm_82 fg_82_0
        refine ev_i rfl ?_
        rw [e]
        rfl
      · show fm_373 (.ref 174) (nI b) a2 a3 (fx V I L R ++ (tl ++ [am_dummy])) = _
        refine r_373 b3 b1 hb q2 hs (fun s0 h0 => ?_)
        rw [in_b (by omega) hn] at h0
        rw [h0]
        exact ev_b qp_174_0 (ev_b (a := 1) rfl (ev_f (by decide) rfl))
    · rcases dich a3 (n := 5) (by omega) with hn | ⟨w, hw, rfl⟩
      · refine ⟨_, opBI_err (c := 2) (b := 0) (by decide) (tl := tl ++ [am_dummy]) ?_ ?_, inv_mk (rel_thr 2 (rel_dum hr)) (room_dum hm)⟩
        · have e : fm_83 (.ref 0) (nI b) (nI k) a3 (fx V I L R ++ tl) = some (.inr (0, (fx V I L R ++ (tl ++ [am_dummy])))) := by
            rw [← List.append_assoc]
            unfold fm_83 fg_83_0
            refine ev_i rfl (ev_cR (c_63 b2 b1 hb q4) rfl (ev_f (nI_pos (by omega)) (ev_b (ev_gI p1 rfl rfl) (ev_t (nI_lt hk (by omega)) ?_))))
            by_cases c : a3 < 0
            · exact ev_t c rfl
            · exact ev_f c (ev_f (fun e => absurd (Int32.lt_of_lt_of_le (show (4 : Int32) < nI 5 by decide) (hn.resolve_left c)) (Int32.not_lt.mpr e)) rfl)
          unfold fm_82 fg_82_0
          refine ev_i rfl ?_
          rw [e]
          rfl
        · show fm_373 (.ref 174) (nI b) (nI k) a3 (fx V I L R ++ (tl ++ [am_dummy])) = _
          refine r_373 b3 b1 hb q2 hs (fun s0 h0 => ?_)
          rw [in_n hk (by omega), in_5n hn] at h0
          rw [h0]
          exact ev_b qp_174_0 (ev_b (a := 2) rfl (ev_f (by decide) rfl))
      · refine ⟨_, opBI_rd (v := itV kd (fun k => I 184 (60 * b + k)) (fun k => I 185 (60 * b + k)) k w) ?_ ?_, inv_mk (rel_thr 0 (rel_ol _ hr)) (room_up hm)⟩
        · have e : fm_83 (.ref 0) (nI b) (nI k) (nI w) (fx V I L R ++ tl) = some (.inl (some (.int (itV kd (fun k => I 184 (60 * b + k)) (fun k => I 185 (60 * b + k)) k w)), (fx V I L R ++ tl))) := by
            unfold fm_83 fg_83_0
            exact ev_i rfl (ev_cR (c_63 b2 b1 hb q4) rfl (ev_f (nI_pos (by omega)) (ev_b (ev_gI p1 rfl rfl) (ev_t (nI_lt hk (by omega)) (ev_f (nI_pos (by omega)) (ev_t (nI_le (b := 4) (by omega) (by omega)) (ev_i (ev_ok p1) (ev_cI (itm_get q5 q6 hs hk hw) rfl))))))))
          unfold fm_82 fg_82_0
          refine ev_i rfl ?_
          rw [e]
          exact ev_b out_s rfl
        · show fm_373 (.ref 174) (nI b) (nI k) (nI w) (fx V I (outL L (itV kd (fun k => I 184 (60 * b + k)) (fun k => I 185 (60 * b + k)) k w).toInt64) R ++ tl) = _
          refine r_373 b3 b1 hb q2 hs (fun s0 h0 => ?_)
          rw [in_n hk (by omega), in_5 hw] at h0
          rw [h0]
          refine ev_b qp_174_0 (ev_b (a := 0) rfl (ev_t (by decide) (ev_b (a := Value.ref 184) rfl ?_)))
          rw [show (60 : Int32) * nI b + nI k = nI (60 * b + k) from nI_add' b 60 k]
          refine ev_b (qa_184 (by omega)) (ev_b (a := Value.ref 185) rfl (ev_b (qa_185 (by omega)) ?_))
          unfold itV
          by_cases c0 : w = 0
          · rw [if_pos c0, c0]
            exact ev_f (fun e => e rfl) rfl
          · rw [if_neg c0]
            refine ev_t (fun e => c0 ((nI_eq (b := 0) (by omega) (by decide)).mp e)) (ev_b (a := Value.ref 175) rfl (ev_b (a := nI kd) ((qa_175 (by omega)).trans (by rw [← q1])) ?_))
            have k3 := q7.1
            by_cases c2 : kd = 2
            · rw [if_pos c2, c2]
              refine ev_f (fun e => e rfl) ?_
              rw [show nI w - 1 = nI (w - 1) from nI_sub (b := 1) (by omega)]
              exact ev_cI (pe_367 _ _ _) rfl
            · rw [if_neg c2]
              refine ev_t (fun e => c2 ((nI_eq (b := 2) (by omega) (by decide)).mp e)) ?_
              by_cases c1 : w = 1
              · rw [if_pos c1, c1]
                exact ev_f (fun e => e rfl) rfl
              · rw [if_neg c1]
                exact ev_t (fun e => c1 ((nI_eq (b := 1) (by omega) (by decide)).mp e)) rfl
